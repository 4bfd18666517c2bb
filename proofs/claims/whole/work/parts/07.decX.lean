theorem dX1_init_0 : decode cX1_init 0 = .ok (.aload_n 0, 1) := by decide +kernel
theorem dX1_init_1 : decode cX1_init 1 = .ok (.invokespecial 3, 3) := by decide +kernel
theorem dX1_init_4 : decode cX1_init 4 = .ok (.aload_n 0, 1) := by decide +kernel
theorem dX1_init_5 : decode cX1_init 5 = .ok (.bipush 11, 2) := by decide +kernel
theorem dX1_init_7 : decode cX1_init 7 = .ok (.newarray .int, 2) := by decide +kernel
theorem dX1_init_9 : decode cX1_init 9 = .ok (.putfield 9, 3) := by decide +kernel
theorem dX1_init_12 : decode cX1_init 12 = .ok (.aload_n 0, 1) := by decide +kernel
theorem dX1_init_13 : decode cX1_init 13 = .ok (.bipush 8, 2) := by decide +kernel
theorem dX1_init_15 : decode cX1_init 15 = .ok (.anewarray 15, 3) := by decide +kernel
theorem dX1_init_18 : decode cX1_init 18 = .ok (.putfield 17, 3) := by decide +kernel
theorem dX1_init_21 : decode cX1_init 21 = .ok (.return_, 1) := by decide +kernel
theorem dX1_accountOf_0 : decode cX1_accountOf 0 = .ok (.iload_n 1, 1) := by decide +kernel
theorem dX1_accountOf_1 : decode cX1_accountOf 1 = .ok (.ifCond .lt 21, 3) := by decide +kernel
theorem dX1_accountOf_4 : decode cX1_accountOf 4 = .ok (.iload_n 1, 1) := by decide +kernel
theorem dX1_accountOf_5 : decode cX1_accountOf 5 = .ok (.aload_n 0, 1) := by decide +kernel
theorem dX1_accountOf_6 : decode cX1_accountOf 6 = .ok (.getfield 9, 3) := by decide +kernel
theorem dX1_accountOf_9 : decode cX1_accountOf 9 = .ok (.arraylength, 1) := by decide +kernel
theorem dX1_accountOf_10 : decode cX1_accountOf 10 = .ok (.if_icmp .ge 12, 3) := by decide +kernel
theorem dX1_accountOf_13 : decode cX1_accountOf 13 = .ok (.aload_n 0, 1) := by decide +kernel
theorem dX1_accountOf_14 : decode cX1_accountOf 14 = .ok (.getfield 9, 3) := by decide +kernel
theorem dX1_accountOf_17 : decode cX1_accountOf 17 = .ok (.iload_n 1, 1) := by decide +kernel
theorem dX1_accountOf_18 : decode cX1_accountOf 18 = .ok (.iaload, 1) := by decide +kernel
theorem dX1_accountOf_19 : decode cX1_accountOf 19 = .ok (.goto 4, 3) := by decide +kernel
theorem dX1_accountOf_22 : decode cX1_accountOf 22 = .ok (.iconst 0, 1) := by decide +kernel
theorem dX1_accountOf_23 : decode cX1_accountOf 23 = .ok (.ireturn, 1) := by decide +kernel
theorem dX1_refuse_0 : decode cX1_refuse 0 = .ok (.iload_n 1, 1) := by decide +kernel
theorem dX1_refuse_1 : decode cX1_refuse 1 = .ok (.ifCond .lt 22, 3) := by decide +kernel
theorem dX1_refuse_4 : decode cX1_refuse 4 = .ok (.iload_n 1, 1) := by decide +kernel
theorem dX1_refuse_5 : decode cX1_refuse 5 = .ok (.aload_n 0, 1) := by decide +kernel
theorem dX1_refuse_6 : decode cX1_refuse 6 = .ok (.getfield 9, 3) := by decide +kernel
theorem dX1_refuse_9 : decode cX1_refuse 9 = .ok (.arraylength, 1) := by decide +kernel
theorem dX1_refuse_10 : decode cX1_refuse 10 = .ok (.if_icmp .ge 13, 3) := by decide +kernel
theorem dX1_refuse_13 : decode cX1_refuse 13 = .ok (.aload_n 0, 1) := by decide +kernel
theorem dX1_refuse_14 : decode cX1_refuse 14 = .ok (.getfield 9, 3) := by decide +kernel
theorem dX1_refuse_17 : decode cX1_refuse 17 = .ok (.iload_n 1, 1) := by decide +kernel
theorem dX1_refuse_18 : decode cX1_refuse 18 = .ok (.dup2, 1) := by decide +kernel
theorem dX1_refuse_19 : decode cX1_refuse 19 = .ok (.iaload, 1) := by decide +kernel
theorem dX1_refuse_20 : decode cX1_refuse 20 = .ok (.iconst 1, 1) := by decide +kernel
theorem dX1_refuse_21 : decode cX1_refuse 21 = .ok (.iadd, 1) := by decide +kernel
theorem dX1_refuse_22 : decode cX1_refuse 22 = .ok (.iastore, 1) := by decide +kernel
theorem dX1_refuse_23 : decode cX1_refuse 23 = .ok (.bipush (-10), 2) := by decide +kernel
theorem dX1_refuse_25 : decode cX1_refuse 25 = .ok (.iload_n 1, 1) := by decide +kernel
theorem dX1_refuse_26 : decode cX1_refuse 26 = .ok (.isub, 1) := by decide +kernel
theorem dX1_refuse_27 : decode cX1_refuse 27 = .ok (.ireturn, 1) := by decide +kernel
theorem dX1_begin_0 : decode cX1_begin 0 = .ok (.aload_n 0, 1) := by decide +kernel
theorem dX1_begin_1 : decode cX1_begin 1 = .ok (.getfield 9, 3) := by decide +kernel
theorem dX1_begin_4 : decode cX1_begin 4 = .ok (.iconst 0, 1) := by decide +kernel
theorem dX1_begin_5 : decode cX1_begin 5 = .ok (.dup2, 1) := by decide +kernel
theorem dX1_begin_6 : decode cX1_begin 6 = .ok (.iaload, 1) := by decide +kernel
theorem dX1_begin_7 : decode cX1_begin 7 = .ok (.iconst 1, 1) := by decide +kernel
theorem dX1_begin_8 : decode cX1_begin 8 = .ok (.iadd, 1) := by decide +kernel
theorem dX1_begin_9 : decode cX1_begin 9 = .ok (.iastore, 1) := by decide +kernel
theorem dX1_begin_10 : decode cX1_begin 10 = .ok (.aload_n 0, 1) := by decide +kernel
theorem dX1_begin_11 : decode cX1_begin 11 = .ok (.getfield 21, 3) := by decide +kernel
theorem dX1_begin_14 : decode cX1_begin 14 = .ok (.aload_n 0, 1) := by decide +kernel
theorem dX1_begin_15 : decode cX1_begin 15 = .ok (.getfield 17, 3) := by decide +kernel
theorem dX1_begin_18 : decode cX1_begin 18 = .ok (.arraylength, 1) := by decide +kernel
theorem dX1_begin_19 : decode cX1_begin 19 = .ok (.if_icmp .lt 7, 3) := by decide +kernel
theorem dX1_begin_22 : decode cX1_begin 22 = .ok (.aload_n 0, 1) := by decide +kernel
theorem dX1_begin_23 : decode cX1_begin 23 = .ok (.invokevirtual 25, 3) := by decide +kernel
theorem dX1_begin_26 : decode cX1_begin 26 = .ok (.aload_n 0, 1) := by decide +kernel
theorem dX1_begin_27 : decode cX1_begin 27 = .ok (.getfield 21, 3) := by decide +kernel
theorem dX1_begin_30 : decode cX1_begin 30 = .ok (.ifCond .lt 15, 3) := by decide +kernel
theorem dX1_begin_33 : decode cX1_begin 33 = .ok (.aload_n 0, 1) := by decide +kernel
theorem dX1_begin_34 : decode cX1_begin 34 = .ok (.getfield 21, 3) := by decide +kernel
theorem dX1_begin_37 : decode cX1_begin 37 = .ok (.aload_n 0, 1) := by decide +kernel
theorem dX1_begin_38 : decode cX1_begin 38 = .ok (.getfield 17, 3) := by decide +kernel
theorem dX1_begin_41 : decode cX1_begin 41 = .ok (.arraylength, 1) := by decide +kernel
theorem dX1_begin_42 : decode cX1_begin 42 = .ok (.if_icmp .lt 4, 3) := by decide +kernel
theorem dX1_begin_45 : decode cX1_begin 45 = .ok (.return_, 1) := by decide +kernel
theorem dX1_begin_46 : decode cX1_begin 46 = .ok (.aload_n 0, 1) := by decide +kernel
theorem dX1_begin_47 : decode cX1_begin 47 = .ok (.getfield 17, 3) := by decide +kernel
theorem dX1_begin_50 : decode cX1_begin 50 = .ok (.aload_n 0, 1) := by decide +kernel
theorem dX1_begin_51 : decode cX1_begin 51 = .ok (.getfield 21, 3) := by decide +kernel
theorem dX1_begin_54 : decode cX1_begin 54 = .ok (.aaload, 1) := by decide +kernel
theorem dX1_begin_55 : decode cX1_begin 55 = .ok (.astore_n 2, 1) := by decide +kernel
theorem dX1_begin_56 : decode cX1_begin 56 = .ok (.aload_n 2, 1) := by decide +kernel
theorem dX1_begin_57 : decode cX1_begin 57 = .ok (.ifnonnull 21, 3) := by decide +kernel
theorem dX1_begin_60 : decode cX1_begin 60 = .ok (.new 15, 3) := by decide +kernel
theorem dX1_begin_63 : decode cX1_begin 63 = .ok (.dup, 1) := by decide +kernel
theorem dX1_begin_64 : decode cX1_begin 64 = .ok (.invokespecial 28, 3) := by decide +kernel
theorem dX1_begin_67 : decode cX1_begin 67 = .ok (.astore_n 2, 1) := by decide +kernel
theorem dX1_begin_68 : decode cX1_begin 68 = .ok (.aload_n 0, 1) := by decide +kernel
theorem dX1_begin_69 : decode cX1_begin 69 = .ok (.getfield 17, 3) := by decide +kernel
theorem dX1_begin_72 : decode cX1_begin 72 = .ok (.aload_n 0, 1) := by decide +kernel
theorem dX1_begin_73 : decode cX1_begin 73 = .ok (.getfield 21, 3) := by decide +kernel
theorem dX1_begin_76 : decode cX1_begin 76 = .ok (.aload_n 2, 1) := by decide +kernel
theorem dX1_begin_77 : decode cX1_begin 77 = .ok (.aastore, 1) := by decide +kernel
theorem dX1_begin_78 : decode cX1_begin 78 = .ok (.aload_n 2, 1) := by decide +kernel
theorem dX1_begin_79 : decode cX1_begin 79 = .ok (.aload_n 1, 1) := by decide +kernel
theorem dX1_begin_80 : decode cX1_begin 80 = .ok (.invokevirtual 29, 3) := by decide +kernel
theorem dX1_begin_83 : decode cX1_begin 83 = .ok (.aload_n 0, 1) := by decide +kernel
theorem dX1_begin_84 : decode cX1_begin 84 = .ok (.dup, 1) := by decide +kernel
theorem dX1_begin_85 : decode cX1_begin 85 = .ok (.getfield 21, 3) := by decide +kernel
theorem dX1_begin_88 : decode cX1_begin 88 = .ok (.iconst 1, 1) := by decide +kernel
theorem dX1_begin_89 : decode cX1_begin 89 = .ok (.iadd, 1) := by decide +kernel
theorem dX1_begin_90 : decode cX1_begin 90 = .ok (.putfield 21, 3) := by decide +kernel
theorem dX1_begin_93 : decode cX1_begin 93 = .ok (.return_, 1) := by decide +kernel
theorem dX1_forgetOldest_0 : decode cX1_forgetOldest 0 = .ok (.aload_n 0, 1) := by decide +kernel
theorem dX1_forgetOldest_1 : decode cX1_forgetOldest 1 = .ok (.getfield 17, 3) := by decide +kernel
theorem dX1_forgetOldest_4 : decode cX1_forgetOldest 4 = .ok (.iconst 0, 1) := by decide +kernel
theorem dX1_forgetOldest_5 : decode cX1_forgetOldest 5 = .ok (.aaload, 1) := by decide +kernel
theorem dX1_forgetOldest_6 : decode cX1_forgetOldest 6 = .ok (.astore_n 1, 1) := by decide +kernel
theorem dX1_forgetOldest_7 : decode cX1_forgetOldest 7 = .ok (.iconst 1, 1) := by decide +kernel
theorem dX1_forgetOldest_8 : decode cX1_forgetOldest 8 = .ok (.istore_n 2, 1) := by decide +kernel
theorem dX1_forgetOldest_9 : decode cX1_forgetOldest 9 = .ok (.iload_n 2, 1) := by decide +kernel
theorem dX1_forgetOldest_10 : decode cX1_forgetOldest 10 = .ok (.aload_n 0, 1) := by decide +kernel
theorem dX1_forgetOldest_11 : decode cX1_forgetOldest 11 = .ok (.getfield 17, 3) := by decide +kernel
theorem dX1_forgetOldest_14 : decode cX1_forgetOldest 14 = .ok (.arraylength, 1) := by decide +kernel
theorem dX1_forgetOldest_15 : decode cX1_forgetOldest 15 = .ok (.if_icmp .ge 23, 3) := by decide +kernel
theorem dX1_forgetOldest_18 : decode cX1_forgetOldest 18 = .ok (.aload_n 0, 1) := by decide +kernel
theorem dX1_forgetOldest_19 : decode cX1_forgetOldest 19 = .ok (.getfield 17, 3) := by decide +kernel
theorem dX1_forgetOldest_22 : decode cX1_forgetOldest 22 = .ok (.iload_n 2, 1) := by decide +kernel
theorem dX1_forgetOldest_23 : decode cX1_forgetOldest 23 = .ok (.iconst 1, 1) := by decide +kernel
theorem dX1_forgetOldest_24 : decode cX1_forgetOldest 24 = .ok (.isub, 1) := by decide +kernel
theorem dX1_forgetOldest_25 : decode cX1_forgetOldest 25 = .ok (.aload_n 0, 1) := by decide +kernel
theorem dX1_forgetOldest_26 : decode cX1_forgetOldest 26 = .ok (.getfield 17, 3) := by decide +kernel
theorem dX1_forgetOldest_29 : decode cX1_forgetOldest 29 = .ok (.iload_n 2, 1) := by decide +kernel
theorem dX1_forgetOldest_30 : decode cX1_forgetOldest 30 = .ok (.aaload, 1) := by decide +kernel
theorem dX1_forgetOldest_31 : decode cX1_forgetOldest 31 = .ok (.aastore, 1) := by decide +kernel
theorem dX1_forgetOldest_32 : decode cX1_forgetOldest 32 = .ok (.iinc 2 1, 3) := by decide +kernel
theorem dX1_forgetOldest_35 : decode cX1_forgetOldest 35 = .ok (.goto (-26), 3) := by decide +kernel
theorem dX1_forgetOldest_38 : decode cX1_forgetOldest 38 = .ok (.aload_n 0, 1) := by decide +kernel
theorem dX1_forgetOldest_39 : decode cX1_forgetOldest 39 = .ok (.getfield 17, 3) := by decide +kernel
theorem dX1_forgetOldest_42 : decode cX1_forgetOldest 42 = .ok (.aload_n 0, 1) := by decide +kernel
theorem dX1_forgetOldest_43 : decode cX1_forgetOldest 43 = .ok (.getfield 17, 3) := by decide +kernel
theorem dX1_forgetOldest_46 : decode cX1_forgetOldest 46 = .ok (.arraylength, 1) := by decide +kernel
theorem dX1_forgetOldest_47 : decode cX1_forgetOldest 47 = .ok (.iconst 1, 1) := by decide +kernel
theorem dX1_forgetOldest_48 : decode cX1_forgetOldest 48 = .ok (.isub, 1) := by decide +kernel
theorem dX1_forgetOldest_49 : decode cX1_forgetOldest 49 = .ok (.aload_n 1, 1) := by decide +kernel
theorem dX1_forgetOldest_50 : decode cX1_forgetOldest 50 = .ok (.aastore, 1) := by decide +kernel
theorem dX1_forgetOldest_51 : decode cX1_forgetOldest 51 = .ok (.aload_n 0, 1) := by decide +kernel
theorem dX1_forgetOldest_52 : decode cX1_forgetOldest 52 = .ok (.dup, 1) := by decide +kernel
theorem dX1_forgetOldest_53 : decode cX1_forgetOldest 53 = .ok (.getfield 21, 3) := by decide +kernel
theorem dX1_forgetOldest_56 : decode cX1_forgetOldest 56 = .ok (.iconst 1, 1) := by decide +kernel
theorem dX1_forgetOldest_57 : decode cX1_forgetOldest 57 = .ok (.isub, 1) := by decide +kernel
theorem dX1_forgetOldest_58 : decode cX1_forgetOldest 58 = .ok (.putfield 21, 3) := by decide +kernel
theorem dX1_forgetOldest_61 : decode cX1_forgetOldest 61 = .ok (.return_, 1) := by decide +kernel
theorem dX1_takeBack_0 : decode cX1_takeBack 0 = .ok (.aload_n 0, 1) := by decide +kernel
theorem dX1_takeBack_1 : decode cX1_takeBack 1 = .ok (.getfield 21, 3) := by decide +kernel
theorem dX1_takeBack_4 : decode cX1_takeBack 4 = .ok (.ifCond .le 15, 3) := by decide +kernel
theorem dX1_takeBack_7 : decode cX1_takeBack 7 = .ok (.aload_n 0, 1) := by decide +kernel
theorem dX1_takeBack_8 : decode cX1_takeBack 8 = .ok (.getfield 21, 3) := by decide +kernel
theorem dX1_takeBack_11 : decode cX1_takeBack 11 = .ok (.aload_n 0, 1) := by decide +kernel
theorem dX1_takeBack_12 : decode cX1_takeBack 12 = .ok (.getfield 17, 3) := by decide +kernel
theorem dX1_takeBack_15 : decode cX1_takeBack 15 = .ok (.arraylength, 1) := by decide +kernel
theorem dX1_takeBack_16 : decode cX1_takeBack 16 = .ok (.if_icmp .le 5, 3) := by decide +kernel
theorem dX1_takeBack_19 : decode cX1_takeBack 19 = .ok (.iconst (-1), 1) := by decide +kernel
theorem dX1_takeBack_20 : decode cX1_takeBack 20 = .ok (.ireturn, 1) := by decide +kernel
theorem dX1_takeBack_21 : decode cX1_takeBack 21 = .ok (.aload_n 0, 1) := by decide +kernel
theorem dX1_takeBack_22 : decode cX1_takeBack 22 = .ok (.dup, 1) := by decide +kernel
theorem dX1_takeBack_23 : decode cX1_takeBack 23 = .ok (.getfield 21, 3) := by decide +kernel
theorem dX1_takeBack_26 : decode cX1_takeBack 26 = .ok (.iconst 1, 1) := by decide +kernel
theorem dX1_takeBack_27 : decode cX1_takeBack 27 = .ok (.isub, 1) := by decide +kernel
theorem dX1_takeBack_28 : decode cX1_takeBack 28 = .ok (.putfield 21, 3) := by decide +kernel
theorem dX1_takeBack_31 : decode cX1_takeBack 31 = .ok (.aload_n 0, 1) := by decide +kernel
theorem dX1_takeBack_32 : decode cX1_takeBack 32 = .ok (.getfield 17, 3) := by decide +kernel
theorem dX1_takeBack_35 : decode cX1_takeBack 35 = .ok (.aload_n 0, 1) := by decide +kernel
theorem dX1_takeBack_36 : decode cX1_takeBack 36 = .ok (.getfield 21, 3) := by decide +kernel
theorem dX1_takeBack_39 : decode cX1_takeBack 39 = .ok (.aaload, 1) := by decide +kernel
theorem dX1_takeBack_40 : decode cX1_takeBack 40 = .ok (.astore_n 2, 1) := by decide +kernel
theorem dX1_takeBack_41 : decode cX1_takeBack 41 = .ok (.aload_n 2, 1) := by decide +kernel
theorem dX1_takeBack_42 : decode cX1_takeBack 42 = .ok (.ifnull 8, 3) := by decide +kernel
theorem dX1_takeBack_45 : decode cX1_takeBack 45 = .ok (.aload_n 1, 1) := by decide +kernel
theorem dX1_takeBack_46 : decode cX1_takeBack 46 = .ok (.aload_n 2, 1) := by decide +kernel
theorem dX1_takeBack_47 : decode cX1_takeBack 47 = .ok (.invokevirtual 29, 3) := by decide +kernel
theorem dX1_takeBack_50 : decode cX1_takeBack 50 = .ok (.aload_n 0, 1) := by decide +kernel
theorem dX1_takeBack_51 : decode cX1_takeBack 51 = .ok (.getfield 21, 3) := by decide +kernel
theorem dX1_takeBack_54 : decode cX1_takeBack 54 = .ok (.ireturn, 1) := by decide +kernel
theorem dX2_init_0 : decode cX2_init 0 = .ok (.aload_n 0, 1) := by decide +kernel
theorem dX2_init_1 : decode cX2_init 1 = .ok (.invokespecial 3, 3) := by decide +kernel
theorem dX2_init_4 : decode cX2_init 4 = .ok (.aload_n 0, 1) := by decide +kernel
theorem dX2_init_5 : decode cX2_init 5 = .ok (.iconst (-1), 1) := by decide +kernel
theorem dX2_init_6 : decode cX2_init 6 = .ok (.putfield 9, 3) := by decide +kernel
theorem dX2_init_9 : decode cX2_init 9 = .ok (.aload_n 0, 1) := by decide +kernel
theorem dX2_init_10 : decode cX2_init 10 = .ok (.iconst (-1), 1) := by decide +kernel
theorem dX2_init_11 : decode cX2_init 11 = .ok (.putfield 15, 3) := by decide +kernel
theorem dX2_init_14 : decode cX2_init 14 = .ok (.aload_n 0, 1) := by decide +kernel
theorem dX2_init_15 : decode cX2_init 15 = .ok (.sipush 512, 3) := by decide +kernel
theorem dX2_init_18 : decode cX2_init 18 = .ok (.anewarray 18, 3) := by decide +kernel
theorem dX2_init_21 : decode cX2_init 21 = .ok (.putfield 20, 3) := by decide +kernel
theorem dX2_init_24 : decode cX2_init 24 = .ok (.aload_n 0, 1) := by decide +kernel
theorem dX2_init_25 : decode cX2_init 25 = .ok (.iload_n 1, 1) := by decide +kernel
theorem dX2_init_26 : decode cX2_init 26 = .ok (.putfield 24, 3) := by decide +kernel
theorem dX2_init_29 : decode cX2_init 29 = .ok (.return_, 1) := by decide +kernel
theorem dX2_beginAs_0 : decode cX2_beginAs 0 = .ok (.aload_n 0, 1) := by decide +kernel
theorem dX2_beginAs_1 : decode cX2_beginAs 1 = .ok (.aload_n 1, 1) := by decide +kernel
theorem dX2_beginAs_2 : decode cX2_beginAs 2 = .ok (.invokevirtual 27, 3) := by decide +kernel
theorem dX2_beginAs_5 : decode cX2_beginAs 5 = .ok (.aload_n 0, 1) := by decide +kernel
theorem dX2_beginAs_6 : decode cX2_beginAs 6 = .ok (.aload_n 1, 1) := by decide +kernel
theorem dX2_beginAs_7 : decode cX2_beginAs 7 = .ok (.getfield 24, 3) := by decide +kernel
theorem dX2_beginAs_10 : decode cX2_beginAs 10 = .ok (.putfield 9, 3) := by decide +kernel
theorem dX2_beginAs_13 : decode cX2_beginAs 13 = .ok (.aload_n 0, 1) := by decide +kernel
theorem dX2_beginAs_14 : decode cX2_beginAs 14 = .ok (.aload_n 1, 1) := by decide +kernel
theorem dX2_beginAs_15 : decode cX2_beginAs 15 = .ok (.getfield 31, 3) := by decide +kernel
theorem dX2_beginAs_18 : decode cX2_beginAs 18 = .ok (.putfield 15, 3) := by decide +kernel
theorem dX2_beginAs_21 : decode cX2_beginAs 21 = .ok (.aload_n 0, 1) := by decide +kernel
theorem dX2_beginAs_22 : decode cX2_beginAs 22 = .ok (.iconst 0, 1) := by decide +kernel
theorem dX2_beginAs_23 : decode cX2_beginAs 23 = .ok (.putfield 34, 3) := by decide +kernel
theorem dX2_beginAs_26 : decode cX2_beginAs 26 = .ok (.return_, 1) := by decide +kernel
theorem dX2_at_0 : decode cX2_at 0 = .ok (.iload_n 1, 1) := by decide +kernel
theorem dX2_at_1 : decode cX2_at 1 = .ok (.aload_n 0, 1) := by decide +kernel
theorem dX2_at_2 : decode cX2_at 2 = .ok (.getfield 37, 3) := by decide +kernel
theorem dX2_at_5 : decode cX2_at 5 = .ok (.if_icmp .lt 15, 3) := by decide +kernel
theorem dX2_at_8 : decode cX2_at 8 = .ok (.iload_n 1, 1) := by decide +kernel
theorem dX2_at_9 : decode cX2_at 9 = .ok (.aload_n 0, 1) := by decide +kernel
theorem dX2_at_10 : decode cX2_at 10 = .ok (.getfield 31, 3) := by decide +kernel
theorem dX2_at_13 : decode cX2_at 13 = .ok (.if_icmp .ge 7, 3) := by decide +kernel
theorem dX2_at_16 : decode cX2_at 16 = .ok (.iconst 1, 1) := by decide +kernel
theorem dX2_at_17 : decode cX2_at 17 = .ok (.goto 4, 3) := by decide +kernel
theorem dX2_at_20 : decode cX2_at 20 = .ok (.iconst 0, 1) := by decide +kernel
theorem dX2_at_21 : decode cX2_at 21 = .ok (.istore_n 2, 1) := by decide +kernel
theorem dX2_at_22 : decode cX2_at 22 = .ok (.iload_n 2, 1) := by decide +kernel
theorem dX2_at_23 : decode cX2_at 23 = .ok (.ifCond .eq 25, 3) := by decide +kernel
theorem dX2_at_26 : decode cX2_at 26 = .ok (.iload_n 1, 1) := by decide +kernel
theorem dX2_at_27 : decode cX2_at 27 = .ok (.ifCond .lt 21, 3) := by decide +kernel
theorem dX2_at_30 : decode cX2_at 30 = .ok (.iload_n 1, 1) := by decide +kernel
theorem dX2_at_31 : decode cX2_at 31 = .ok (.aload_n 0, 1) := by decide +kernel
theorem dX2_at_32 : decode cX2_at 32 = .ok (.getfield 20, 3) := by decide +kernel
theorem dX2_at_35 : decode cX2_at 35 = .ok (.arraylength, 1) := by decide +kernel
theorem dX2_at_36 : decode cX2_at 36 = .ok (.if_icmp .ge 12, 3) := by decide +kernel
theorem dX2_at_39 : decode cX2_at 39 = .ok (.aload_n 0, 1) := by decide +kernel
theorem dX2_at_40 : decode cX2_at 40 = .ok (.getfield 20, 3) := by decide +kernel
theorem dX2_at_43 : decode cX2_at 43 = .ok (.iload_n 1, 1) := by decide +kernel
theorem dX2_at_44 : decode cX2_at 44 = .ok (.aaload, 1) := by decide +kernel
theorem dX2_at_45 : decode cX2_at 45 = .ok (.goto 4, 3) := by decide +kernel
theorem dX2_at_48 : decode cX2_at 48 = .ok (.aconst_null, 1) := by decide +kernel
theorem dX2_at_49 : decode cX2_at 49 = .ok (.areturn, 1) := by decide +kernel
theorem dX2_add_0 : decode cX2_add 0 = .ok (.aload_n 1, 1) := by decide +kernel
theorem dX2_add_1 : decode cX2_add 1 = .ok (.ifnull 55, 3) := by decide +kernel
theorem dX2_add_4 : decode cX2_add 4 = .ok (.aload_n 0, 1) := by decide +kernel
theorem dX2_add_5 : decode cX2_add 5 = .ok (.getfield 31, 3) := by decide +kernel
theorem dX2_add_8 : decode cX2_add 8 = .ok (.ifCond .lt 48, 3) := by decide +kernel
theorem dX2_add_11 : decode cX2_add 11 = .ok (.aload_n 0, 1) := by decide +kernel
theorem dX2_add_12 : decode cX2_add 12 = .ok (.getfield 31, 3) := by decide +kernel
theorem dX2_add_15 : decode cX2_add 15 = .ok (.aload_n 0, 1) := by decide +kernel
theorem dX2_add_16 : decode cX2_add 16 = .ok (.getfield 20, 3) := by decide +kernel
theorem dX2_add_19 : decode cX2_add 19 = .ok (.arraylength, 1) := by decide +kernel
theorem dX2_add_20 : decode cX2_add 20 = .ok (.if_icmp .ge 36, 3) := by decide +kernel
theorem dX2_add_23 : decode cX2_add 23 = .ok (.aload_n 0, 1) := by decide +kernel
theorem dX2_add_24 : decode cX2_add 24 = .ok (.getfield 20, 3) := by decide +kernel
theorem dX2_add_27 : decode cX2_add 27 = .ok (.aload_n 0, 1) := by decide +kernel
theorem dX2_add_28 : decode cX2_add 28 = .ok (.getfield 31, 3) := by decide +kernel
theorem dX2_add_31 : decode cX2_add 31 = .ok (.aload_n 1, 1) := by decide +kernel
theorem dX2_add_32 : decode cX2_add 32 = .ok (.aastore, 1) := by decide +kernel
theorem dX2_add_33 : decode cX2_add 33 = .ok (.aload_n 0, 1) := by decide +kernel
theorem dX2_add_34 : decode cX2_add 34 = .ok (.dup, 1) := by decide +kernel
theorem dX2_add_35 : decode cX2_add 35 = .ok (.getfield 31, 3) := by decide +kernel
theorem dX2_add_38 : decode cX2_add 38 = .ok (.iconst 1, 1) := by decide +kernel
theorem dX2_add_39 : decode cX2_add 39 = .ok (.iadd, 1) := by decide +kernel
theorem dX2_add_40 : decode cX2_add 40 = .ok (.putfield 31, 3) := by decide +kernel
theorem dX2_add_43 : decode cX2_add 43 = .ok (.aload_n 0, 1) := by decide +kernel
theorem dX2_add_44 : decode cX2_add 44 = .ok (.dup, 1) := by decide +kernel
theorem dX2_add_45 : decode cX2_add 45 = .ok (.getfield 40, 3) := by decide +kernel
theorem dX2_add_48 : decode cX2_add 48 = .ok (.aload_n 1, 1) := by decide +kernel
theorem dX2_add_49 : decode cX2_add 49 = .ok (.getfield 43, 3) := by decide +kernel
theorem dX2_add_52 : decode cX2_add 52 = .ok (.iadd, 1) := by decide +kernel
theorem dX2_add_53 : decode cX2_add 53 = .ok (.putfield 40, 3) := by decide +kernel
theorem dX2_add_56 : decode cX2_add 56 = .ok (.return_, 1) := by decide +kernel
theorem dX2_cutFirst_0 : decode cX2_cutFirst 0 = .ok (.aload_n 0, 1) := by decide +kernel
theorem dX2_cutFirst_1 : decode cX2_cutFirst 1 = .ok (.dup, 1) := by decide +kernel
theorem dX2_cutFirst_2 : decode cX2_cutFirst 2 = .ok (.getfield 40, 3) := by decide +kernel
theorem dX2_cutFirst_5 : decode cX2_cutFirst 5 = .ok (.aload_n 1, 1) := by decide +kernel
theorem dX2_cutFirst_6 : decode cX2_cutFirst 6 = .ok (.getfield 43, 3) := by decide +kernel
theorem dX2_cutFirst_9 : decode cX2_cutFirst 9 = .ok (.isub, 1) := by decide +kernel
theorem dX2_cutFirst_10 : decode cX2_cutFirst 10 = .ok (.putfield 40, 3) := by decide +kernel
theorem dX2_cutFirst_13 : decode cX2_cutFirst 13 = .ok (.aload_n 0, 1) := by decide +kernel
theorem dX2_cutFirst_14 : decode cX2_cutFirst 14 = .ok (.dup, 1) := by decide +kernel
theorem dX2_cutFirst_15 : decode cX2_cutFirst 15 = .ok (.getfield 37, 3) := by decide +kernel
theorem dX2_cutFirst_18 : decode cX2_cutFirst 18 = .ok (.iconst 1, 1) := by decide +kernel
theorem dX2_cutFirst_19 : decode cX2_cutFirst 19 = .ok (.iadd, 1) := by decide +kernel
theorem dX2_cutFirst_20 : decode cX2_cutFirst 20 = .ok (.putfield 37, 3) := by decide +kernel
theorem dX2_cutFirst_23 : decode cX2_cutFirst 23 = .ok (.aload_n 0, 1) := by decide +kernel
theorem dX2_cutFirst_24 : decode cX2_cutFirst 24 = .ok (.dup, 1) := by decide +kernel
theorem dX2_cutFirst_25 : decode cX2_cutFirst 25 = .ok (.getfield 34, 3) := by decide +kernel
theorem dX2_cutFirst_28 : decode cX2_cutFirst 28 = .ok (.iconst 1, 1) := by decide +kernel
theorem dX2_cutFirst_29 : decode cX2_cutFirst 29 = .ok (.iadd, 1) := by decide +kernel
theorem dX2_cutFirst_30 : decode cX2_cutFirst 30 = .ok (.putfield 34, 3) := by decide +kernel
theorem dX2_cutFirst_33 : decode cX2_cutFirst 33 = .ok (.return_, 1) := by decide +kernel
theorem dX2_sizesFrom_0 : decode cX2_sizesFrom 0 = .ok (.iconst 0, 1) := by decide +kernel
theorem dX2_sizesFrom_1 : decode cX2_sizesFrom 1 = .ok (.istore_n 2, 1) := by decide +kernel
theorem dX2_sizesFrom_2 : decode cX2_sizesFrom 2 = .ok (.iload_n 1, 1) := by decide +kernel
theorem dX2_sizesFrom_3 : decode cX2_sizesFrom 3 = .ok (.istore_n 3, 1) := by decide +kernel
theorem dX2_sizesFrom_4 : decode cX2_sizesFrom 4 = .ok (.iload_n 3, 1) := by decide +kernel
theorem dX2_sizesFrom_5 : decode cX2_sizesFrom 5 = .ok (.aload_n 0, 1) := by decide +kernel
theorem dX2_sizesFrom_6 : decode cX2_sizesFrom 6 = .ok (.getfield 31, 3) := by decide +kernel
theorem dX2_sizesFrom_9 : decode cX2_sizesFrom 9 = .ok (.if_icmp .ge 33, 3) := by decide +kernel
theorem dX2_sizesFrom_12 : decode cX2_sizesFrom 12 = .ok (.aload_n 0, 1) := by decide +kernel
theorem dX2_sizesFrom_13 : decode cX2_sizesFrom 13 = .ok (.iload_n 3, 1) := by decide +kernel
theorem dX2_sizesFrom_14 : decode cX2_sizesFrom 14 = .ok (.invokevirtual 46, 3) := by decide +kernel
theorem dX2_sizesFrom_17 : decode cX2_sizesFrom 17 = .ok (.astore 4, 2) := by decide +kernel
theorem dX2_sizesFrom_19 : decode cX2_sizesFrom 19 = .ok (.iload_n 2, 1) := by decide +kernel
theorem dX2_sizesFrom_20 : decode cX2_sizesFrom 20 = .ok (.aload 4, 2) := by decide +kernel
theorem dX2_sizesFrom_22 : decode cX2_sizesFrom 22 = .ok (.ifnonnull 7, 3) := by decide +kernel
theorem dX2_sizesFrom_25 : decode cX2_sizesFrom 25 = .ok (.iconst 0, 1) := by decide +kernel
theorem dX2_sizesFrom_26 : decode cX2_sizesFrom 26 = .ok (.goto 8, 3) := by decide +kernel
theorem dX2_sizesFrom_29 : decode cX2_sizesFrom 29 = .ok (.aload 4, 2) := by decide +kernel
theorem dX2_sizesFrom_31 : decode cX2_sizesFrom 31 = .ok (.getfield 43, 3) := by decide +kernel
theorem dX2_sizesFrom_34 : decode cX2_sizesFrom 34 = .ok (.iadd, 1) := by decide +kernel
theorem dX2_sizesFrom_35 : decode cX2_sizesFrom 35 = .ok (.istore_n 2, 1) := by decide +kernel
theorem dX2_sizesFrom_36 : decode cX2_sizesFrom 36 = .ok (.iinc 3 1, 3) := by decide +kernel
theorem dX2_sizesFrom_39 : decode cX2_sizesFrom 39 = .ok (.goto (-35), 3) := by decide +kernel
theorem dX2_sizesFrom_42 : decode cX2_sizesFrom 42 = .ok (.iload_n 2, 1) := by decide +kernel
theorem dX2_sizesFrom_43 : decode cX2_sizesFrom 43 = .ok (.ireturn, 1) := by decide +kernel
theorem dX2_valueSum_0 : decode cX2_valueSum 0 = .ok (.iconst 0, 1) := by decide +kernel
theorem dX2_valueSum_1 : decode cX2_valueSum 1 = .ok (.istore_n 1, 1) := by decide +kernel
theorem dX2_valueSum_2 : decode cX2_valueSum 2 = .ok (.aload_n 0, 1) := by decide +kernel
theorem dX2_valueSum_3 : decode cX2_valueSum 3 = .ok (.getfield 37, 3) := by decide +kernel
theorem dX2_valueSum_6 : decode cX2_valueSum 6 = .ok (.istore_n 2, 1) := by decide +kernel
theorem dX2_valueSum_7 : decode cX2_valueSum 7 = .ok (.iload_n 2, 1) := by decide +kernel
theorem dX2_valueSum_8 : decode cX2_valueSum 8 = .ok (.aload_n 0, 1) := by decide +kernel
theorem dX2_valueSum_9 : decode cX2_valueSum 9 = .ok (.getfield 31, 3) := by decide +kernel
theorem dX2_valueSum_12 : decode cX2_valueSum 12 = .ok (.if_icmp .ge 30, 3) := by decide +kernel
theorem dX2_valueSum_15 : decode cX2_valueSum 15 = .ok (.aload_n 0, 1) := by decide +kernel
theorem dX2_valueSum_16 : decode cX2_valueSum 16 = .ok (.iload_n 2, 1) := by decide +kernel
theorem dX2_valueSum_17 : decode cX2_valueSum 17 = .ok (.invokevirtual 46, 3) := by decide +kernel
theorem dX2_valueSum_20 : decode cX2_valueSum 20 = .ok (.astore_n 3, 1) := by decide +kernel
theorem dX2_valueSum_21 : decode cX2_valueSum 21 = .ok (.iload_n 1, 1) := by decide +kernel
theorem dX2_valueSum_22 : decode cX2_valueSum 22 = .ok (.aload_n 3, 1) := by decide +kernel
theorem dX2_valueSum_23 : decode cX2_valueSum 23 = .ok (.ifnonnull 7, 3) := by decide +kernel
theorem dX2_valueSum_26 : decode cX2_valueSum 26 = .ok (.iconst 0, 1) := by decide +kernel
theorem dX2_valueSum_27 : decode cX2_valueSum 27 = .ok (.goto 7, 3) := by decide +kernel
theorem dX2_valueSum_30 : decode cX2_valueSum 30 = .ok (.aload_n 3, 1) := by decide +kernel
theorem dX2_valueSum_31 : decode cX2_valueSum 31 = .ok (.getfield 50, 3) := by decide +kernel
theorem dX2_valueSum_34 : decode cX2_valueSum 34 = .ok (.iadd, 1) := by decide +kernel
theorem dX2_valueSum_35 : decode cX2_valueSum 35 = .ok (.istore_n 1, 1) := by decide +kernel
theorem dX2_valueSum_36 : decode cX2_valueSum 36 = .ok (.iinc 2 1, 3) := by decide +kernel
theorem dX2_valueSum_39 : decode cX2_valueSum 39 = .ok (.goto (-32), 3) := by decide +kernel
theorem dX2_valueSum_42 : decode cX2_valueSum 42 = .ok (.iload_n 1, 1) := by decide +kernel
theorem dX2_valueSum_43 : decode cX2_valueSum 43 = .ok (.ireturn, 1) := by decide +kernel
theorem dX2_countFrom_0 : decode cX2_countFrom 0 = .ok (.iconst 0, 1) := by decide +kernel
theorem dX2_countFrom_1 : decode cX2_countFrom 1 = .ok (.istore_n 3, 1) := by decide +kernel
theorem dX2_countFrom_2 : decode cX2_countFrom 2 = .ok (.iload_n 1, 1) := by decide +kernel
theorem dX2_countFrom_3 : decode cX2_countFrom 3 = .ok (.istore 4, 2) := by decide +kernel
theorem dX2_countFrom_5 : decode cX2_countFrom 5 = .ok (.iload 4, 2) := by decide +kernel
theorem dX2_countFrom_7 : decode cX2_countFrom 7 = .ok (.aload_n 0, 1) := by decide +kernel
theorem dX2_countFrom_8 : decode cX2_countFrom 8 = .ok (.getfield 31, 3) := by decide +kernel
theorem dX2_countFrom_11 : decode cX2_countFrom 11 = .ok (.if_icmp .ge 39, 3) := by decide +kernel
theorem dX2_countFrom_14 : decode cX2_countFrom 14 = .ok (.aload_n 0, 1) := by decide +kernel
theorem dX2_countFrom_15 : decode cX2_countFrom 15 = .ok (.iload 4, 2) := by decide +kernel
theorem dX2_countFrom_17 : decode cX2_countFrom 17 = .ok (.invokevirtual 46, 3) := by decide +kernel
theorem dX2_countFrom_20 : decode cX2_countFrom 20 = .ok (.astore 5, 2) := by decide +kernel
theorem dX2_countFrom_22 : decode cX2_countFrom 22 = .ok (.iload_n 3, 1) := by decide +kernel
theorem dX2_countFrom_23 : decode cX2_countFrom 23 = .ok (.aload 5, 2) := by decide +kernel
theorem dX2_countFrom_25 : decode cX2_countFrom 25 = .ok (.ifnull 16, 3) := by decide +kernel
theorem dX2_countFrom_28 : decode cX2_countFrom 28 = .ok (.aload 5, 2) := by decide +kernel
theorem dX2_countFrom_30 : decode cX2_countFrom 30 = .ok (.getfield 53, 3) := by decide +kernel
theorem dX2_countFrom_33 : decode cX2_countFrom 33 = .ok (.iload_n 2, 1) := by decide +kernel
theorem dX2_countFrom_34 : decode cX2_countFrom 34 = .ok (.if_icmp .ne 7, 3) := by decide +kernel
theorem dX2_countFrom_37 : decode cX2_countFrom 37 = .ok (.iconst 1, 1) := by decide +kernel
theorem dX2_countFrom_38 : decode cX2_countFrom 38 = .ok (.goto 4, 3) := by decide +kernel
theorem dX2_countFrom_41 : decode cX2_countFrom 41 = .ok (.iconst 0, 1) := by decide +kernel
theorem dX2_countFrom_42 : decode cX2_countFrom 42 = .ok (.iadd, 1) := by decide +kernel
theorem dX2_countFrom_43 : decode cX2_countFrom 43 = .ok (.istore_n 3, 1) := by decide +kernel
theorem dX2_countFrom_44 : decode cX2_countFrom 44 = .ok (.iinc 4 1, 3) := by decide +kernel
theorem dX2_countFrom_47 : decode cX2_countFrom 47 = .ok (.goto (-42), 3) := by decide +kernel
theorem dX2_countFrom_50 : decode cX2_countFrom 50 = .ok (.iload_n 3, 1) := by decide +kernel
theorem dX2_countFrom_51 : decode cX2_countFrom 51 = .ok (.ireturn, 1) := by decide +kernel
theorem dX2_latestWith_0 : decode cX2_latestWith 0 = .ok (.aload_n 0, 1) := by decide +kernel
theorem dX2_latestWith_1 : decode cX2_latestWith 1 = .ok (.getfield 31, 3) := by decide +kernel
theorem dX2_latestWith_4 : decode cX2_latestWith 4 = .ok (.iconst 1, 1) := by decide +kernel
theorem dX2_latestWith_5 : decode cX2_latestWith 5 = .ok (.isub, 1) := by decide +kernel
theorem dX2_latestWith_6 : decode cX2_latestWith 6 = .ok (.istore_n 2, 1) := by decide +kernel
theorem dX2_latestWith_7 : decode cX2_latestWith 7 = .ok (.iload_n 2, 1) := by decide +kernel
theorem dX2_latestWith_8 : decode cX2_latestWith 8 = .ok (.aload_n 0, 1) := by decide +kernel
theorem dX2_latestWith_9 : decode cX2_latestWith 9 = .ok (.getfield 37, 3) := by decide +kernel
theorem dX2_latestWith_12 : decode cX2_latestWith 12 = .ok (.if_icmp .lt 32, 3) := by decide +kernel
theorem dX2_latestWith_15 : decode cX2_latestWith 15 = .ok (.aload_n 0, 1) := by decide +kernel
theorem dX2_latestWith_16 : decode cX2_latestWith 16 = .ok (.iload_n 2, 1) := by decide +kernel
theorem dX2_latestWith_17 : decode cX2_latestWith 17 = .ok (.invokevirtual 46, 3) := by decide +kernel
theorem dX2_latestWith_20 : decode cX2_latestWith 20 = .ok (.astore_n 3, 1) := by decide +kernel
theorem dX2_latestWith_21 : decode cX2_latestWith 21 = .ok (.aload_n 3, 1) := by decide +kernel
theorem dX2_latestWith_22 : decode cX2_latestWith 22 = .ok (.ifnull 16, 3) := by decide +kernel
theorem dX2_latestWith_25 : decode cX2_latestWith 25 = .ok (.aload_n 3, 1) := by decide +kernel
theorem dX2_latestWith_26 : decode cX2_latestWith 26 = .ok (.getfield 53, 3) := by decide +kernel
theorem dX2_latestWith_29 : decode cX2_latestWith 29 = .ok (.iload_n 1, 1) := by decide +kernel
theorem dX2_latestWith_30 : decode cX2_latestWith 30 = .ok (.if_icmp .ne 8, 3) := by decide +kernel
theorem dX2_latestWith_33 : decode cX2_latestWith 33 = .ok (.aload_n 3, 1) := by decide +kernel
theorem dX2_latestWith_34 : decode cX2_latestWith 34 = .ok (.getfield 50, 3) := by decide +kernel
theorem dX2_latestWith_37 : decode cX2_latestWith 37 = .ok (.ireturn, 1) := by decide +kernel
theorem dX2_latestWith_38 : decode cX2_latestWith 38 = .ok (.iinc 2 (-1), 3) := by decide +kernel
theorem dX2_latestWith_41 : decode cX2_latestWith 41 = .ok (.goto (-34), 3) := by decide +kernel
theorem dX2_latestWith_44 : decode cX2_latestWith 44 = .ok (.sipush (-1000), 3) := by decide +kernel
theorem dX2_latestWith_47 : decode cX2_latestWith 47 = .ok (.ireturn, 1) := by decide +kernel
theorem dX2_copyFrom_0 : decode cX2_copyFrom 0 = .ok (.aload_n 0, 1) := by decide +kernel
theorem dX2_copyFrom_1 : decode cX2_copyFrom 1 = .ok (.aload_n 1, 1) := by decide +kernel
theorem dX2_copyFrom_2 : decode cX2_copyFrom 2 = .ok (.getfield 56, 3) := by decide +kernel
theorem dX2_copyFrom_5 : decode cX2_copyFrom 5 = .ok (.putfield 56, 3) := by decide +kernel
theorem dX2_copyFrom_8 : decode cX2_copyFrom 8 = .ok (.aload_n 0, 1) := by decide +kernel
theorem dX2_copyFrom_9 : decode cX2_copyFrom 9 = .ok (.aload_n 1, 1) := by decide +kernel
theorem dX2_copyFrom_10 : decode cX2_copyFrom 10 = .ok (.getfield 9, 3) := by decide +kernel
theorem dX2_copyFrom_13 : decode cX2_copyFrom 13 = .ok (.putfield 9, 3) := by decide +kernel
theorem dX2_copyFrom_16 : decode cX2_copyFrom 16 = .ok (.aload_n 0, 1) := by decide +kernel
theorem dX2_copyFrom_17 : decode cX2_copyFrom 17 = .ok (.aload_n 1, 1) := by decide +kernel
theorem dX2_copyFrom_18 : decode cX2_copyFrom 18 = .ok (.getfield 15, 3) := by decide +kernel
theorem dX2_copyFrom_21 : decode cX2_copyFrom 21 = .ok (.putfield 15, 3) := by decide +kernel
theorem dX2_copyFrom_24 : decode cX2_copyFrom 24 = .ok (.aload_n 0, 1) := by decide +kernel
theorem dX2_copyFrom_25 : decode cX2_copyFrom 25 = .ok (.aload_n 1, 1) := by decide +kernel
theorem dX2_copyFrom_26 : decode cX2_copyFrom 26 = .ok (.getfield 37, 3) := by decide +kernel
theorem dX2_copyFrom_29 : decode cX2_copyFrom 29 = .ok (.putfield 37, 3) := by decide +kernel
theorem dX2_copyFrom_32 : decode cX2_copyFrom 32 = .ok (.aload_n 0, 1) := by decide +kernel
theorem dX2_copyFrom_33 : decode cX2_copyFrom 33 = .ok (.aload_n 1, 1) := by decide +kernel
theorem dX2_copyFrom_34 : decode cX2_copyFrom 34 = .ok (.getfield 31, 3) := by decide +kernel
theorem dX2_copyFrom_37 : decode cX2_copyFrom 37 = .ok (.putfield 31, 3) := by decide +kernel
theorem dX2_copyFrom_40 : decode cX2_copyFrom 40 = .ok (.aload_n 0, 1) := by decide +kernel
theorem dX2_copyFrom_41 : decode cX2_copyFrom 41 = .ok (.aload_n 1, 1) := by decide +kernel
theorem dX2_copyFrom_42 : decode cX2_copyFrom 42 = .ok (.getfield 40, 3) := by decide +kernel
theorem dX2_copyFrom_45 : decode cX2_copyFrom 45 = .ok (.putfield 40, 3) := by decide +kernel
theorem dX2_copyFrom_48 : decode cX2_copyFrom 48 = .ok (.aload_n 0, 1) := by decide +kernel
theorem dX2_copyFrom_49 : decode cX2_copyFrom 49 = .ok (.aload_n 1, 1) := by decide +kernel
theorem dX2_copyFrom_50 : decode cX2_copyFrom 50 = .ok (.getfield 34, 3) := by decide +kernel
theorem dX2_copyFrom_53 : decode cX2_copyFrom 53 = .ok (.putfield 34, 3) := by decide +kernel
theorem dX2_copyFrom_56 : decode cX2_copyFrom 56 = .ok (.aload_n 0, 1) := by decide +kernel
theorem dX2_copyFrom_57 : decode cX2_copyFrom 57 = .ok (.getfield 56, 3) := by decide +kernel
theorem dX2_copyFrom_60 : decode cX2_copyFrom 60 = .ok (.ifCond .eq 59, 3) := by decide +kernel
theorem dX2_copyFrom_63 : decode cX2_copyFrom 63 = .ok (.aload_n 0, 1) := by decide +kernel
theorem dX2_copyFrom_64 : decode cX2_copyFrom 64 = .ok (.getfield 37, 3) := by decide +kernel
theorem dX2_copyFrom_67 : decode cX2_copyFrom 67 = .ok (.ifCond .lt 52, 3) := by decide +kernel
theorem dX2_copyFrom_70 : decode cX2_copyFrom 70 = .ok (.aload_n 0, 1) := by decide +kernel
theorem dX2_copyFrom_71 : decode cX2_copyFrom 71 = .ok (.getfield 37, 3) := by decide +kernel
theorem dX2_copyFrom_74 : decode cX2_copyFrom 74 = .ok (.aload_n 0, 1) := by decide +kernel
theorem dX2_copyFrom_75 : decode cX2_copyFrom 75 = .ok (.getfield 31, 3) := by decide +kernel
theorem dX2_copyFrom_78 : decode cX2_copyFrom 78 = .ok (.if_icmp .ge 41, 3) := by decide +kernel
theorem dX2_copyFrom_81 : decode cX2_copyFrom 81 = .ok (.aload_n 0, 1) := by decide +kernel
theorem dX2_copyFrom_82 : decode cX2_copyFrom 82 = .ok (.getfield 31, 3) := by decide +kernel
theorem dX2_copyFrom_85 : decode cX2_copyFrom 85 = .ok (.sipush 512, 3) := by decide +kernel
theorem dX2_copyFrom_88 : decode cX2_copyFrom 88 = .ok (.if_icmp .gt 31, 3) := by decide +kernel
theorem dX2_copyFrom_91 : decode cX2_copyFrom 91 = .ok (.aload_n 1, 1) := by decide +kernel
theorem dX2_copyFrom_92 : decode cX2_copyFrom 92 = .ok (.getfield 20, 3) := by decide +kernel
theorem dX2_copyFrom_95 : decode cX2_copyFrom 95 = .ok (.aload_n 0, 1) := by decide +kernel
theorem dX2_copyFrom_96 : decode cX2_copyFrom 96 = .ok (.getfield 37, 3) := by decide +kernel
theorem dX2_copyFrom_99 : decode cX2_copyFrom 99 = .ok (.aload_n 0, 1) := by decide +kernel
theorem dX2_copyFrom_100 : decode cX2_copyFrom 100 = .ok (.getfield 20, 3) := by decide +kernel
theorem dX2_copyFrom_103 : decode cX2_copyFrom 103 = .ok (.aload_n 0, 1) := by decide +kernel
theorem dX2_copyFrom_104 : decode cX2_copyFrom 104 = .ok (.getfield 37, 3) := by decide +kernel
theorem dX2_copyFrom_107 : decode cX2_copyFrom 107 = .ok (.aload_n 0, 1) := by decide +kernel
theorem dX2_copyFrom_108 : decode cX2_copyFrom 108 = .ok (.getfield 31, 3) := by decide +kernel
theorem dX2_copyFrom_111 : decode cX2_copyFrom 111 = .ok (.aload_n 0, 1) := by decide +kernel
theorem dX2_copyFrom_112 : decode cX2_copyFrom 112 = .ok (.getfield 37, 3) := by decide +kernel
theorem dX2_copyFrom_115 : decode cX2_copyFrom 115 = .ok (.isub, 1) := by decide +kernel
theorem dX2_copyFrom_116 : decode cX2_copyFrom 116 = .ok (.invokestatic 60, 3) := by decide +kernel
theorem dX2_copyFrom_119 : decode cX2_copyFrom 119 = .ok (.return_, 1) := by decide +kernel
theorem dX3_init_0 : decode cX3_init 0 = .ok (.aload_n 0, 1) := by decide +kernel
theorem dX3_init_1 : decode cX3_init 1 = .ok (.invokespecial 3, 3) := by decide +kernel
theorem dX3_init_4 : decode cX3_init 4 = .ok (.aload_n 0, 1) := by decide +kernel
theorem dX3_init_5 : decode cX3_init 5 = .ok (.sipush (-1000), 3) := by decide +kernel
theorem dX3_init_8 : decode cX3_init 8 = .ok (.putfield 9, 3) := by decide +kernel
theorem dX3_init_11 : decode cX3_init 11 = .ok (.aload_n 0, 1) := by decide +kernel
theorem dX3_init_12 : decode cX3_init 12 = .ok (.sipush (-1000), 3) := by decide +kernel
theorem dX3_init_15 : decode cX3_init 15 = .ok (.putfield 15, 3) := by decide +kernel
theorem dX3_init_18 : decode cX3_init 18 = .ok (.aload_n 0, 1) := by decide +kernel
theorem dX3_init_19 : decode cX3_init 19 = .ok (.iconst (-1), 1) := by decide +kernel
theorem dX3_init_20 : decode cX3_init 20 = .ok (.putfield 18, 3) := by decide +kernel
theorem dX3_init_23 : decode cX3_init 23 = .ok (.aload_n 0, 1) := by decide +kernel
theorem dX3_init_24 : decode cX3_init 24 = .ok (.iconst (-1), 1) := by decide +kernel
theorem dX3_init_25 : decode cX3_init 25 = .ok (.putfield 21, 3) := by decide +kernel
theorem dX3_init_28 : decode cX3_init 28 = .ok (.aload_n 0, 1) := by decide +kernel
theorem dX3_init_29 : decode cX3_init 29 = .ok (.bipush 10, 2) := by decide +kernel
theorem dX3_init_31 : decode cX3_init 31 = .ok (.newarray .int, 2) := by decide +kernel
theorem dX3_init_33 : decode cX3_init 33 = .ok (.putfield 24, 3) := by decide +kernel
theorem dX3_init_36 : decode cX3_init 36 = .ok (.iconst 0, 1) := by decide +kernel
theorem dX3_init_37 : decode cX3_init 37 = .ok (.istore_n 1, 1) := by decide +kernel
theorem dX3_init_38 : decode cX3_init 38 = .ok (.iload_n 1, 1) := by decide +kernel
theorem dX3_init_39 : decode cX3_init 39 = .ok (.aload_n 0, 1) := by decide +kernel
theorem dX3_init_40 : decode cX3_init 40 = .ok (.getfield 24, 3) := by decide +kernel
theorem dX3_init_43 : decode cX3_init 43 = .ok (.arraylength, 1) := by decide +kernel
theorem dX3_init_44 : decode cX3_init 44 = .ok (.if_icmp .ge 18, 3) := by decide +kernel
theorem dX3_init_47 : decode cX3_init 47 = .ok (.aload_n 0, 1) := by decide +kernel
theorem dX3_init_48 : decode cX3_init 48 = .ok (.getfield 24, 3) := by decide +kernel
theorem dX3_init_51 : decode cX3_init 51 = .ok (.iload_n 1, 1) := by decide +kernel
theorem dX3_init_52 : decode cX3_init 52 = .ok (.sipush (-1000), 3) := by decide +kernel
theorem dX3_init_55 : decode cX3_init 55 = .ok (.iastore, 1) := by decide +kernel
theorem dX3_init_56 : decode cX3_init 56 = .ok (.iinc 1 1, 3) := by decide +kernel
theorem dX3_init_59 : decode cX3_init 59 = .ok (.goto (-21), 3) := by decide +kernel
theorem dX3_init_62 : decode cX3_init 62 = .ok (.return_, 1) := by decide +kernel
theorem dX3_clear_0 : decode cX3_clear 0 = .ok (.aload_n 0, 1) := by decide +kernel
theorem dX3_clear_1 : decode cX3_clear 1 = .ok (.iconst 0, 1) := by decide +kernel
theorem dX3_clear_2 : decode cX3_clear 2 = .ok (.putfield 28, 3) := by decide +kernel
theorem dX3_clear_5 : decode cX3_clear 5 = .ok (.aload_n 0, 1) := by decide +kernel
theorem dX3_clear_6 : decode cX3_clear 6 = .ok (.iconst 0, 1) := by decide +kernel
theorem dX3_clear_7 : decode cX3_clear 7 = .ok (.putfield 31, 3) := by decide +kernel
theorem dX3_clear_10 : decode cX3_clear 10 = .ok (.aload_n 0, 1) := by decide +kernel
theorem dX3_clear_11 : decode cX3_clear 11 = .ok (.iconst 0, 1) := by decide +kernel
theorem dX3_clear_12 : decode cX3_clear 12 = .ok (.putfield 34, 3) := by decide +kernel
theorem dX3_clear_15 : decode cX3_clear 15 = .ok (.aload_n 0, 1) := by decide +kernel
theorem dX3_clear_16 : decode cX3_clear 16 = .ok (.sipush (-1000), 3) := by decide +kernel
theorem dX3_clear_19 : decode cX3_clear 19 = .ok (.putfield 9, 3) := by decide +kernel
theorem dX3_clear_22 : decode cX3_clear 22 = .ok (.aload_n 0, 1) := by decide +kernel
theorem dX3_clear_23 : decode cX3_clear 23 = .ok (.sipush (-1000), 3) := by decide +kernel
theorem dX3_clear_26 : decode cX3_clear 26 = .ok (.putfield 15, 3) := by decide +kernel
theorem dX3_clear_29 : decode cX3_clear 29 = .ok (.aload_n 0, 1) := by decide +kernel
theorem dX3_clear_30 : decode cX3_clear 30 = .ok (.iconst (-1), 1) := by decide +kernel
theorem dX3_clear_31 : decode cX3_clear 31 = .ok (.putfield 18, 3) := by decide +kernel
theorem dX3_clear_34 : decode cX3_clear 34 = .ok (.aload_n 0, 1) := by decide +kernel
theorem dX3_clear_35 : decode cX3_clear 35 = .ok (.iconst (-1), 1) := by decide +kernel
theorem dX3_clear_36 : decode cX3_clear 36 = .ok (.putfield 21, 3) := by decide +kernel
theorem dX3_clear_39 : decode cX3_clear 39 = .ok (.iconst 0, 1) := by decide +kernel
theorem dX3_clear_40 : decode cX3_clear 40 = .ok (.istore_n 1, 1) := by decide +kernel
theorem dX3_clear_41 : decode cX3_clear 41 = .ok (.iload_n 1, 1) := by decide +kernel
theorem dX3_clear_42 : decode cX3_clear 42 = .ok (.aload_n 0, 1) := by decide +kernel
theorem dX3_clear_43 : decode cX3_clear 43 = .ok (.getfield 24, 3) := by decide +kernel
theorem dX3_clear_46 : decode cX3_clear 46 = .ok (.arraylength, 1) := by decide +kernel
theorem dX3_clear_47 : decode cX3_clear 47 = .ok (.if_icmp .ge 18, 3) := by decide +kernel
theorem dX3_clear_50 : decode cX3_clear 50 = .ok (.aload_n 0, 1) := by decide +kernel
theorem dX3_clear_51 : decode cX3_clear 51 = .ok (.getfield 24, 3) := by decide +kernel
theorem dX3_clear_54 : decode cX3_clear 54 = .ok (.iload_n 1, 1) := by decide +kernel
theorem dX3_clear_55 : decode cX3_clear 55 = .ok (.sipush (-1000), 3) := by decide +kernel
theorem dX3_clear_58 : decode cX3_clear 58 = .ok (.iastore, 1) := by decide +kernel
theorem dX3_clear_59 : decode cX3_clear 59 = .ok (.iinc 1 1, 3) := by decide +kernel
theorem dX3_clear_62 : decode cX3_clear 62 = .ok (.goto (-21), 3) := by decide +kernel
theorem dX3_clear_65 : decode cX3_clear 65 = .ok (.return_, 1) := by decide +kernel
theorem dX3_add_0 : decode cX3_add 0 = .ok (.aload_n 0, 1) := by decide +kernel
theorem dX3_add_1 : decode cX3_add 1 = .ok (.getfield 28, 3) := by decide +kernel
theorem dX3_add_4 : decode cX3_add 4 = .ok (.ifCond .ne 7, 3) := by decide +kernel
theorem dX3_add_7 : decode cX3_add 7 = .ok (.iconst 1, 1) := by decide +kernel
theorem dX3_add_8 : decode cX3_add 8 = .ok (.goto 4, 3) := by decide +kernel
theorem dX3_add_11 : decode cX3_add 11 = .ok (.iconst 0, 1) := by decide +kernel
theorem dX3_add_12 : decode cX3_add 12 = .ok (.istore_n 3, 1) := by decide +kernel
theorem dX3_add_13 : decode cX3_add 13 = .ok (.aload_n 0, 1) := by decide +kernel
theorem dX3_add_14 : decode cX3_add 14 = .ok (.iload_n 3, 1) := by decide +kernel
theorem dX3_add_15 : decode cX3_add 15 = .ok (.ifCond .ne 14, 3) := by decide +kernel
theorem dX3_add_18 : decode cX3_add 18 = .ok (.aload_n 1, 1) := by decide +kernel
theorem dX3_add_19 : decode cX3_add 19 = .ok (.getfield 37, 3) := by decide +kernel
theorem dX3_add_22 : decode cX3_add 22 = .ok (.aload_n 0, 1) := by decide +kernel
theorem dX3_add_23 : decode cX3_add 23 = .ok (.getfield 9, 3) := by decide +kernel
theorem dX3_add_26 : decode cX3_add 26 = .ok (.if_icmp .ge 10, 3) := by decide +kernel
theorem dX3_add_29 : decode cX3_add 29 = .ok (.aload_n 1, 1) := by decide +kernel
theorem dX3_add_30 : decode cX3_add 30 = .ok (.getfield 37, 3) := by decide +kernel
theorem dX3_add_33 : decode cX3_add 33 = .ok (.goto 7, 3) := by decide +kernel
theorem dX3_add_36 : decode cX3_add 36 = .ok (.aload_n 0, 1) := by decide +kernel
theorem dX3_add_37 : decode cX3_add 37 = .ok (.getfield 9, 3) := by decide +kernel
theorem dX3_add_40 : decode cX3_add 40 = .ok (.putfield 9, 3) := by decide +kernel
theorem dX3_add_43 : decode cX3_add 43 = .ok (.aload_n 0, 1) := by decide +kernel
theorem dX3_add_44 : decode cX3_add 44 = .ok (.iload_n 3, 1) := by decide +kernel
theorem dX3_add_45 : decode cX3_add 45 = .ok (.ifCond .ne 14, 3) := by decide +kernel
theorem dX3_add_48 : decode cX3_add 48 = .ok (.aload_n 1, 1) := by decide +kernel
theorem dX3_add_49 : decode cX3_add 49 = .ok (.getfield 37, 3) := by decide +kernel
theorem dX3_add_52 : decode cX3_add 52 = .ok (.aload_n 0, 1) := by decide +kernel
theorem dX3_add_53 : decode cX3_add 53 = .ok (.getfield 15, 3) := by decide +kernel
theorem dX3_add_56 : decode cX3_add 56 = .ok (.if_icmp .le 10, 3) := by decide +kernel
theorem dX3_add_59 : decode cX3_add 59 = .ok (.aload_n 1, 1) := by decide +kernel
theorem dX3_add_60 : decode cX3_add 60 = .ok (.getfield 37, 3) := by decide +kernel
theorem dX3_add_63 : decode cX3_add 63 = .ok (.goto 7, 3) := by decide +kernel
theorem dX3_add_66 : decode cX3_add 66 = .ok (.aload_n 0, 1) := by decide +kernel
theorem dX3_add_67 : decode cX3_add 67 = .ok (.getfield 15, 3) := by decide +kernel
theorem dX3_add_70 : decode cX3_add 70 = .ok (.putfield 15, 3) := by decide +kernel
theorem dX3_add_73 : decode cX3_add 73 = .ok (.aload_n 0, 1) := by decide +kernel
theorem dX3_add_74 : decode cX3_add 74 = .ok (.iload_n 3, 1) := by decide +kernel
theorem dX3_add_75 : decode cX3_add 75 = .ok (.ifCond .eq 7, 3) := by decide +kernel
theorem dX3_add_78 : decode cX3_add 78 = .ok (.iload_n 2, 1) := by decide +kernel
theorem dX3_add_79 : decode cX3_add 79 = .ok (.goto 7, 3) := by decide +kernel
theorem dX3_add_82 : decode cX3_add 82 = .ok (.aload_n 0, 1) := by decide +kernel
theorem dX3_add_83 : decode cX3_add 83 = .ok (.getfield 18, 3) := by decide +kernel
theorem dX3_add_86 : decode cX3_add 86 = .ok (.putfield 18, 3) := by decide +kernel
theorem dX3_add_89 : decode cX3_add 89 = .ok (.aload_n 0, 1) := by decide +kernel
theorem dX3_add_90 : decode cX3_add 90 = .ok (.iload_n 2, 1) := by decide +kernel
theorem dX3_add_91 : decode cX3_add 91 = .ok (.putfield 21, 3) := by decide +kernel
theorem dX3_add_94 : decode cX3_add 94 = .ok (.aload_n 0, 1) := by decide +kernel
theorem dX3_add_95 : decode cX3_add 95 = .ok (.dup, 1) := by decide +kernel
theorem dX3_add_96 : decode cX3_add 96 = .ok (.getfield 28, 3) := by decide +kernel
theorem dX3_add_99 : decode cX3_add 99 = .ok (.iconst 1, 1) := by decide +kernel
theorem dX3_add_100 : decode cX3_add 100 = .ok (.iadd, 1) := by decide +kernel
theorem dX3_add_101 : decode cX3_add 101 = .ok (.putfield 28, 3) := by decide +kernel
theorem dX3_add_104 : decode cX3_add 104 = .ok (.aload_n 0, 1) := by decide +kernel
theorem dX3_add_105 : decode cX3_add 105 = .ok (.dup, 1) := by decide +kernel
theorem dX3_add_106 : decode cX3_add 106 = .ok (.getfield 31, 3) := by decide +kernel
theorem dX3_add_109 : decode cX3_add 109 = .ok (.aload_n 1, 1) := by decide +kernel
theorem dX3_add_110 : decode cX3_add 110 = .ok (.getfield 42, 3) := by decide +kernel
theorem dX3_add_113 : decode cX3_add 113 = .ok (.iadd, 1) := by decide +kernel
theorem dX3_add_114 : decode cX3_add 114 = .ok (.putfield 31, 3) := by decide +kernel
theorem dX3_add_117 : decode cX3_add 117 = .ok (.aload_n 0, 1) := by decide +kernel
theorem dX3_add_118 : decode cX3_add 118 = .ok (.dup, 1) := by decide +kernel
theorem dX3_add_119 : decode cX3_add 119 = .ok (.getfield 34, 3) := by decide +kernel
theorem dX3_add_122 : decode cX3_add 122 = .ok (.aload_n 1, 1) := by decide +kernel
theorem dX3_add_123 : decode cX3_add 123 = .ok (.getfield 37, 3) := by decide +kernel
theorem dX3_add_126 : decode cX3_add 126 = .ok (.iadd, 1) := by decide +kernel
theorem dX3_add_127 : decode cX3_add 127 = .ok (.putfield 34, 3) := by decide +kernel
theorem dX3_add_130 : decode cX3_add 130 = .ok (.aload_n 1, 1) := by decide +kernel
theorem dX3_add_131 : decode cX3_add 131 = .ok (.getfield 45, 3) := by decide +kernel
theorem dX3_add_134 : decode cX3_add 134 = .ok (.ifCond .lt 28, 3) := by decide +kernel
theorem dX3_add_137 : decode cX3_add 137 = .ok (.aload_n 1, 1) := by decide +kernel
theorem dX3_add_138 : decode cX3_add 138 = .ok (.getfield 45, 3) := by decide +kernel
theorem dX3_add_141 : decode cX3_add 141 = .ok (.aload_n 0, 1) := by decide +kernel
theorem dX3_add_142 : decode cX3_add 142 = .ok (.getfield 24, 3) := by decide +kernel
theorem dX3_add_145 : decode cX3_add 145 = .ok (.arraylength, 1) := by decide +kernel
theorem dX3_add_146 : decode cX3_add 146 = .ok (.if_icmp .ge 16, 3) := by decide +kernel
theorem dX3_add_149 : decode cX3_add 149 = .ok (.aload_n 0, 1) := by decide +kernel
theorem dX3_add_150 : decode cX3_add 150 = .ok (.getfield 24, 3) := by decide +kernel
theorem dX3_add_153 : decode cX3_add 153 = .ok (.aload_n 1, 1) := by decide +kernel
theorem dX3_add_154 : decode cX3_add 154 = .ok (.getfield 45, 3) := by decide +kernel
theorem dX3_add_157 : decode cX3_add 157 = .ok (.aload_n 1, 1) := by decide +kernel
theorem dX3_add_158 : decode cX3_add 158 = .ok (.getfield 37, 3) := by decide +kernel
theorem dX3_add_161 : decode cX3_add 161 = .ok (.iastore, 1) := by decide +kernel
theorem dX3_add_162 : decode cX3_add 162 = .ok (.return_, 1) := by decide +kernel
theorem dX3_numberOf_0 : decode cX3_numberOf 0 = .ok (.iload_n 1, 1) := by decide +kernel
theorem dX3_numberOf_1 : decode cX3_numberOf 1 = .ok (.tableswitch 69 0 5 #[39, 44, 49, 54, 59, 64], 39) := by decide +kernel
theorem dX3_numberOf_40 : decode cX3_numberOf 40 = .ok (.aload_n 0, 1) := by decide +kernel
theorem dX3_numberOf_41 : decode cX3_numberOf 41 = .ok (.getfield 28, 3) := by decide +kernel
theorem dX3_numberOf_44 : decode cX3_numberOf 44 = .ok (.ireturn, 1) := by decide +kernel
theorem dX3_numberOf_45 : decode cX3_numberOf 45 = .ok (.aload_n 0, 1) := by decide +kernel
theorem dX3_numberOf_46 : decode cX3_numberOf 46 = .ok (.getfield 31, 3) := by decide +kernel
theorem dX3_numberOf_49 : decode cX3_numberOf 49 = .ok (.ireturn, 1) := by decide +kernel
theorem dX3_numberOf_50 : decode cX3_numberOf 50 = .ok (.aload_n 0, 1) := by decide +kernel
theorem dX3_numberOf_51 : decode cX3_numberOf 51 = .ok (.getfield 34, 3) := by decide +kernel
theorem dX3_numberOf_54 : decode cX3_numberOf 54 = .ok (.ireturn, 1) := by decide +kernel
theorem dX3_numberOf_55 : decode cX3_numberOf 55 = .ok (.aload_n 0, 1) := by decide +kernel
theorem dX3_numberOf_56 : decode cX3_numberOf 56 = .ok (.getfield 9, 3) := by decide +kernel
theorem dX3_numberOf_59 : decode cX3_numberOf 59 = .ok (.ireturn, 1) := by decide +kernel
theorem dX3_numberOf_60 : decode cX3_numberOf 60 = .ok (.aload_n 0, 1) := by decide +kernel
theorem dX3_numberOf_61 : decode cX3_numberOf 61 = .ok (.getfield 15, 3) := by decide +kernel
theorem dX3_numberOf_64 : decode cX3_numberOf 64 = .ok (.ireturn, 1) := by decide +kernel
theorem dX3_numberOf_65 : decode cX3_numberOf 65 = .ok (.aload_n 0, 1) := by decide +kernel
theorem dX3_numberOf_66 : decode cX3_numberOf 66 = .ok (.getfield 18, 3) := by decide +kernel
theorem dX3_numberOf_69 : decode cX3_numberOf 69 = .ok (.ireturn, 1) := by decide +kernel
theorem dX3_numberOf_70 : decode cX3_numberOf 70 = .ok (.aload_n 0, 1) := by decide +kernel
theorem dX3_numberOf_71 : decode cX3_numberOf 71 = .ok (.getfield 21, 3) := by decide +kernel
theorem dX3_numberOf_74 : decode cX3_numberOf 74 = .ok (.ireturn, 1) := by decide +kernel
theorem dX3_latestWith_0 : decode cX3_latestWith 0 = .ok (.iload_n 1, 1) := by decide +kernel
theorem dX3_latestWith_1 : decode cX3_latestWith 1 = .ok (.ifCond .lt 21, 3) := by decide +kernel
theorem dX3_latestWith_4 : decode cX3_latestWith 4 = .ok (.iload_n 1, 1) := by decide +kernel
theorem dX3_latestWith_5 : decode cX3_latestWith 5 = .ok (.aload_n 0, 1) := by decide +kernel
theorem dX3_latestWith_6 : decode cX3_latestWith 6 = .ok (.getfield 24, 3) := by decide +kernel
theorem dX3_latestWith_9 : decode cX3_latestWith 9 = .ok (.arraylength, 1) := by decide +kernel
theorem dX3_latestWith_10 : decode cX3_latestWith 10 = .ok (.if_icmp .ge 12, 3) := by decide +kernel
theorem dX3_latestWith_13 : decode cX3_latestWith 13 = .ok (.aload_n 0, 1) := by decide +kernel
theorem dX3_latestWith_14 : decode cX3_latestWith 14 = .ok (.getfield 24, 3) := by decide +kernel
theorem dX3_latestWith_17 : decode cX3_latestWith 17 = .ok (.iload_n 1, 1) := by decide +kernel
theorem dX3_latestWith_18 : decode cX3_latestWith 18 = .ok (.iaload, 1) := by decide +kernel
theorem dX3_latestWith_19 : decode cX3_latestWith 19 = .ok (.goto 6, 3) := by decide +kernel
theorem dX3_latestWith_22 : decode cX3_latestWith 22 = .ok (.sipush (-1000), 3) := by decide +kernel
theorem dX3_latestWith_25 : decode cX3_latestWith 25 = .ok (.ireturn, 1) := by decide +kernel
theorem dX3_copyFrom_0 : decode cX3_copyFrom 0 = .ok (.aload_n 0, 1) := by decide +kernel
theorem dX3_copyFrom_1 : decode cX3_copyFrom 1 = .ok (.aload_n 1, 1) := by decide +kernel
theorem dX3_copyFrom_2 : decode cX3_copyFrom 2 = .ok (.getfield 28, 3) := by decide +kernel
theorem dX3_copyFrom_5 : decode cX3_copyFrom 5 = .ok (.putfield 28, 3) := by decide +kernel
theorem dX3_copyFrom_8 : decode cX3_copyFrom 8 = .ok (.aload_n 0, 1) := by decide +kernel
theorem dX3_copyFrom_9 : decode cX3_copyFrom 9 = .ok (.aload_n 1, 1) := by decide +kernel
theorem dX3_copyFrom_10 : decode cX3_copyFrom 10 = .ok (.getfield 31, 3) := by decide +kernel
theorem dX3_copyFrom_13 : decode cX3_copyFrom 13 = .ok (.putfield 31, 3) := by decide +kernel
theorem dX3_copyFrom_16 : decode cX3_copyFrom 16 = .ok (.aload_n 0, 1) := by decide +kernel
theorem dX3_copyFrom_17 : decode cX3_copyFrom 17 = .ok (.aload_n 1, 1) := by decide +kernel
theorem dX3_copyFrom_18 : decode cX3_copyFrom 18 = .ok (.getfield 34, 3) := by decide +kernel
theorem dX3_copyFrom_21 : decode cX3_copyFrom 21 = .ok (.putfield 34, 3) := by decide +kernel
theorem dX3_copyFrom_24 : decode cX3_copyFrom 24 = .ok (.aload_n 0, 1) := by decide +kernel
theorem dX3_copyFrom_25 : decode cX3_copyFrom 25 = .ok (.aload_n 1, 1) := by decide +kernel
theorem dX3_copyFrom_26 : decode cX3_copyFrom 26 = .ok (.getfield 9, 3) := by decide +kernel
theorem dX3_copyFrom_29 : decode cX3_copyFrom 29 = .ok (.putfield 9, 3) := by decide +kernel
theorem dX3_copyFrom_32 : decode cX3_copyFrom 32 = .ok (.aload_n 0, 1) := by decide +kernel
theorem dX3_copyFrom_33 : decode cX3_copyFrom 33 = .ok (.aload_n 1, 1) := by decide +kernel
theorem dX3_copyFrom_34 : decode cX3_copyFrom 34 = .ok (.getfield 15, 3) := by decide +kernel
theorem dX3_copyFrom_37 : decode cX3_copyFrom 37 = .ok (.putfield 15, 3) := by decide +kernel
theorem dX3_copyFrom_40 : decode cX3_copyFrom 40 = .ok (.aload_n 0, 1) := by decide +kernel
theorem dX3_copyFrom_41 : decode cX3_copyFrom 41 = .ok (.aload_n 1, 1) := by decide +kernel
theorem dX3_copyFrom_42 : decode cX3_copyFrom 42 = .ok (.getfield 18, 3) := by decide +kernel
theorem dX3_copyFrom_45 : decode cX3_copyFrom 45 = .ok (.putfield 18, 3) := by decide +kernel
theorem dX3_copyFrom_48 : decode cX3_copyFrom 48 = .ok (.aload_n 0, 1) := by decide +kernel
theorem dX3_copyFrom_49 : decode cX3_copyFrom 49 = .ok (.aload_n 1, 1) := by decide +kernel
theorem dX3_copyFrom_50 : decode cX3_copyFrom 50 = .ok (.getfield 21, 3) := by decide +kernel
theorem dX3_copyFrom_53 : decode cX3_copyFrom 53 = .ok (.putfield 21, 3) := by decide +kernel
theorem dX3_copyFrom_56 : decode cX3_copyFrom 56 = .ok (.aload_n 1, 1) := by decide +kernel
theorem dX3_copyFrom_57 : decode cX3_copyFrom 57 = .ok (.getfield 24, 3) := by decide +kernel
theorem dX3_copyFrom_60 : decode cX3_copyFrom 60 = .ok (.iconst 0, 1) := by decide +kernel
theorem dX3_copyFrom_61 : decode cX3_copyFrom 61 = .ok (.aload_n 0, 1) := by decide +kernel
theorem dX3_copyFrom_62 : decode cX3_copyFrom 62 = .ok (.getfield 24, 3) := by decide +kernel
theorem dX3_copyFrom_65 : decode cX3_copyFrom 65 = .ok (.iconst 0, 1) := by decide +kernel
theorem dX3_copyFrom_66 : decode cX3_copyFrom 66 = .ok (.bipush 10, 2) := by decide +kernel
theorem dX3_copyFrom_68 : decode cX3_copyFrom 68 = .ok (.invokestatic 48, 3) := by decide +kernel
theorem dX3_copyFrom_71 : decode cX3_copyFrom 71 = .ok (.return_, 1) := by decide +kernel
theorem dX4_init_0 : decode cX4_init 0 = .ok (.aload_n 0, 1) := by decide +kernel
theorem dX4_init_1 : decode cX4_init 1 = .ok (.invokespecial 3, 3) := by decide +kernel
theorem dX4_init_4 : decode cX4_init 4 = .ok (.aload_n 0, 1) := by decide +kernel
theorem dX4_init_5 : decode cX4_init 5 = .ok (.new 9, 3) := by decide +kernel
theorem dX4_init_8 : decode cX4_init 8 = .ok (.dup, 1) := by decide +kernel
theorem dX4_init_9 : decode cX4_init 9 = .ok (.invokespecial 11, 3) := by decide +kernel
theorem dX4_init_12 : decode cX4_init 12 = .ok (.putfield 12, 3) := by decide +kernel
theorem dX4_init_15 : decode cX4_init 15 = .ok (.aload_n 0, 1) := by decide +kernel
theorem dX4_init_16 : decode cX4_init 16 = .ok (.bipush 99, 2) := by decide +kernel
theorem dX4_init_18 : decode cX4_init 18 = .ok (.anewarray 18, 3) := by decide +kernel
theorem dX4_init_21 : decode cX4_init 21 = .ok (.putfield 20, 3) := by decide +kernel
theorem dX4_init_24 : decode cX4_init 24 = .ok (.return_, 1) := by decide +kernel
theorem dX4_itemCount_0 : decode cX4_itemCount 0 = .ok (.aload_n 0, 1) := by decide +kernel
theorem dX4_itemCount_1 : decode cX4_itemCount 1 = .ok (.getfield 24, 3) := by decide +kernel
theorem dX4_itemCount_4 : decode cX4_itemCount 4 = .ok (.aload_n 0, 1) := by decide +kernel
theorem dX4_itemCount_5 : decode cX4_itemCount 5 = .ok (.getfield 28, 3) := by decide +kernel
theorem dX4_itemCount_8 : decode cX4_itemCount 8 = .ok (.ifCond .eq 7, 3) := by decide +kernel
theorem dX4_itemCount_11 : decode cX4_itemCount 11 = .ok (.iconst 1, 1) := by decide +kernel
theorem dX4_itemCount_12 : decode cX4_itemCount 12 = .ok (.goto 4, 3) := by decide +kernel
theorem dX4_itemCount_15 : decode cX4_itemCount 15 = .ok (.iconst 0, 1) := by decide +kernel
theorem dX4_itemCount_16 : decode cX4_itemCount 16 = .ok (.iadd, 1) := by decide +kernel
theorem dX4_itemCount_17 : decode cX4_itemCount 17 = .ok (.ireturn, 1) := by decide +kernel
theorem dX4_take_0 : decode cX4_take 0 = .ok (.aload_n 0, 1) := by decide +kernel
theorem dX4_take_1 : decode cX4_take 1 = .ok (.aload_n 1, 1) := by decide +kernel
theorem dX4_take_2 : decode cX4_take 2 = .ok (.getfield 32, 3) := by decide +kernel
theorem dX4_take_5 : decode cX4_take 5 = .ok (.getfield 37, 3) := by decide +kernel
theorem dX4_take_8 : decode cX4_take 8 = .ok (.ifCond .le 7, 3) := by decide +kernel
theorem dX4_take_11 : decode cX4_take 11 = .ok (.iconst 1, 1) := by decide +kernel
theorem dX4_take_12 : decode cX4_take 12 = .ok (.goto 4, 3) := by decide +kernel
theorem dX4_take_15 : decode cX4_take 15 = .ok (.iconst 0, 1) := by decide +kernel
theorem dX4_take_16 : decode cX4_take 16 = .ok (.putfield 28, 3) := by decide +kernel
theorem dX4_take_19 : decode cX4_take 19 = .ok (.aload_n 0, 1) := by decide +kernel
theorem dX4_take_20 : decode cX4_take 20 = .ok (.getfield 28, 3) := by decide +kernel
theorem dX4_take_23 : decode cX4_take 23 = .ok (.ifCond .eq 31, 3) := by decide +kernel
theorem dX4_take_26 : decode cX4_take 26 = .ok (.aload_n 0, 1) := by decide +kernel
theorem dX4_take_27 : decode cX4_take 27 = .ok (.getfield 12, 3) := by decide +kernel
theorem dX4_take_30 : decode cX4_take 30 = .ok (.aload_n 1, 1) := by decide +kernel
theorem dX4_take_31 : decode cX4_take 31 = .ok (.getfield 32, 3) := by decide +kernel
theorem dX4_take_34 : decode cX4_take 34 = .ok (.invokevirtual 39, 3) := by decide +kernel
theorem dX4_take_37 : decode cX4_take 37 = .ok (.aload_n 1, 1) := by decide +kernel
theorem dX4_take_38 : decode cX4_take 38 = .ok (.getfield 32, 3) := by decide +kernel
theorem dX4_take_41 : decode cX4_take 41 = .ok (.invokevirtual 43, 3) := by decide +kernel
theorem dX4_take_44 : decode cX4_take 44 = .ok (.aload_n 1, 1) := by decide +kernel
theorem dX4_take_45 : decode cX4_take 45 = .ok (.dup, 1) := by decide +kernel
theorem dX4_take_46 : decode cX4_take 46 = .ok (.getfield 46, 3) := by decide +kernel
theorem dX4_take_49 : decode cX4_take 49 = .ok (.iconst 1, 1) := by decide +kernel
theorem dX4_take_50 : decode cX4_take 50 = .ok (.iadd, 1) := by decide +kernel
theorem dX4_take_51 : decode cX4_take 51 = .ok (.putfield 46, 3) := by decide +kernel
theorem dX4_take_54 : decode cX4_take 54 = .ok (.aload_n 0, 1) := by decide +kernel
theorem dX4_take_55 : decode cX4_take 55 = .ok (.aload_n 2, 1) := by decide +kernel
theorem dX4_take_56 : decode cX4_take 56 = .ok (.aload_n 1, 1) := by decide +kernel
theorem dX4_take_57 : decode cX4_take 57 = .ok (.getfield 49, 3) := by decide +kernel
theorem dX4_take_60 : decode cX4_take 60 = .ok (.aload_n 0, 1) := by decide +kernel
theorem dX4_take_61 : decode cX4_take 61 = .ok (.getfield 28, 3) := by decide +kernel
theorem dX4_take_64 : decode cX4_take 64 = .ok (.ifCond .eq 9, 3) := by decide +kernel
theorem dX4_take_67 : decode cX4_take 67 = .ok (.iload_n 3, 1) := by decide +kernel
theorem dX4_take_68 : decode cX4_take 68 = .ok (.iconst 1, 1) := by decide +kernel
theorem dX4_take_69 : decode cX4_take 69 = .ok (.isub, 1) := by decide +kernel
theorem dX4_take_70 : decode cX4_take 70 = .ok (.goto 4, 3) := by decide +kernel
theorem dX4_take_73 : decode cX4_take 73 = .ok (.iload_n 3, 1) := by decide +kernel
theorem dX4_take_74 : decode cX4_take 74 = .ok (.invokevirtual 52, 3) := by decide +kernel
theorem dX4_take_77 : decode cX4_take 77 = .ok (.aload_n 1, 1) := by decide +kernel
theorem dX4_take_78 : decode cX4_take 78 = .ok (.dup, 1) := by decide +kernel
theorem dX4_take_79 : decode cX4_take 79 = .ok (.getfield 49, 3) := by decide +kernel
theorem dX4_take_82 : decode cX4_take 82 = .ok (.aload_n 0, 1) := by decide +kernel
theorem dX4_take_83 : decode cX4_take 83 = .ok (.getfield 24, 3) := by decide +kernel
theorem dX4_take_86 : decode cX4_take 86 = .ok (.iadd, 1) := by decide +kernel
theorem dX4_take_87 : decode cX4_take 87 = .ok (.putfield 49, 3) := by decide +kernel
theorem dX4_take_90 : decode cX4_take 90 = .ok (.aload_n 1, 1) := by decide +kernel
theorem dX4_take_91 : decode cX4_take 91 = .ok (.dup, 1) := by decide +kernel
theorem dX4_take_92 : decode cX4_take 92 = .ok (.getfield 56, 3) := by decide +kernel
theorem dX4_take_95 : decode cX4_take 95 = .ok (.aload_n 0, 1) := by decide +kernel
theorem dX4_take_96 : decode cX4_take 96 = .ok (.getfield 24, 3) := by decide +kernel
theorem dX4_take_99 : decode cX4_take 99 = .ok (.iadd, 1) := by decide +kernel
theorem dX4_take_100 : decode cX4_take 100 = .ok (.putfield 56, 3) := by decide +kernel
theorem dX4_take_103 : decode cX4_take 103 = .ok (.return_, 1) := by decide +kernel
theorem dX4_takeEntries_0 : decode cX4_takeEntries 0 = .ok (.aload_n 0, 1) := by decide +kernel
theorem dX4_takeEntries_1 : decode cX4_takeEntries 1 = .ok (.iload_n 2, 1) := by decide +kernel
theorem dX4_takeEntries_2 : decode cX4_takeEntries 2 = .ok (.putfield 59, 3) := by decide +kernel
theorem dX4_takeEntries_5 : decode cX4_takeEntries 5 = .ok (.aload_n 0, 1) := by decide +kernel
theorem dX4_takeEntries_6 : decode cX4_takeEntries 6 = .ok (.iconst 0, 1) := by decide +kernel
theorem dX4_takeEntries_7 : decode cX4_takeEntries 7 = .ok (.putfield 24, 3) := by decide +kernel
theorem dX4_takeEntries_10 : decode cX4_takeEntries 10 = .ok (.iconst 0, 1) := by decide +kernel
theorem dX4_takeEntries_11 : decode cX4_takeEntries 11 = .ok (.istore 4, 2) := by decide +kernel
theorem dX4_takeEntries_13 : decode cX4_takeEntries 13 = .ok (.iload 4, 2) := by decide +kernel
theorem dX4_takeEntries_15 : decode cX4_takeEntries 15 = .ok (.iload_n 3, 1) := by decide +kernel
theorem dX4_takeEntries_16 : decode cX4_takeEntries 16 = .ok (.if_icmp .ge 56, 3) := by decide +kernel
theorem dX4_takeEntries_19 : decode cX4_takeEntries 19 = .ok (.iload 4, 2) := by decide +kernel
theorem dX4_takeEntries_21 : decode cX4_takeEntries 21 = .ok (.aload_n 0, 1) := by decide +kernel
theorem dX4_takeEntries_22 : decode cX4_takeEntries 22 = .ok (.getfield 20, 3) := by decide +kernel
theorem dX4_takeEntries_25 : decode cX4_takeEntries 25 = .ok (.arraylength, 1) := by decide +kernel
theorem dX4_takeEntries_26 : decode cX4_takeEntries 26 = .ok (.if_icmp .ge 46, 3) := by decide +kernel
theorem dX4_takeEntries_29 : decode cX4_takeEntries 29 = .ok (.aload_n 1, 1) := by decide +kernel
theorem dX4_takeEntries_30 : decode cX4_takeEntries 30 = .ok (.iload_n 2, 1) := by decide +kernel
theorem dX4_takeEntries_31 : decode cX4_takeEntries 31 = .ok (.iload 4, 2) := by decide +kernel
theorem dX4_takeEntries_33 : decode cX4_takeEntries 33 = .ok (.iadd, 1) := by decide +kernel
theorem dX4_takeEntries_34 : decode cX4_takeEntries 34 = .ok (.invokevirtual 62, 3) := by decide +kernel
theorem dX4_takeEntries_37 : decode cX4_takeEntries 37 = .ok (.astore 5, 2) := by decide +kernel
theorem dX4_takeEntries_39 : decode cX4_takeEntries 39 = .ok (.aload 5, 2) := by decide +kernel
theorem dX4_takeEntries_41 : decode cX4_takeEntries 41 = .ok (.ifnonnull 6, 3) := by decide +kernel
theorem dX4_takeEntries_44 : decode cX4_takeEntries 44 = .ok (.goto 28, 3) := by decide +kernel
theorem dX4_takeEntries_47 : decode cX4_takeEntries 47 = .ok (.aload_n 0, 1) := by decide +kernel
theorem dX4_takeEntries_48 : decode cX4_takeEntries 48 = .ok (.getfield 20, 3) := by decide +kernel
theorem dX4_takeEntries_51 : decode cX4_takeEntries 51 = .ok (.iload 4, 2) := by decide +kernel
theorem dX4_takeEntries_53 : decode cX4_takeEntries 53 = .ok (.aload 5, 2) := by decide +kernel
theorem dX4_takeEntries_55 : decode cX4_takeEntries 55 = .ok (.aastore, 1) := by decide +kernel
theorem dX4_takeEntries_56 : decode cX4_takeEntries 56 = .ok (.aload_n 0, 1) := by decide +kernel
theorem dX4_takeEntries_57 : decode cX4_takeEntries 57 = .ok (.dup, 1) := by decide +kernel
theorem dX4_takeEntries_58 : decode cX4_takeEntries 58 = .ok (.getfield 24, 3) := by decide +kernel
theorem dX4_takeEntries_61 : decode cX4_takeEntries 61 = .ok (.iconst 1, 1) := by decide +kernel
theorem dX4_takeEntries_62 : decode cX4_takeEntries 62 = .ok (.iadd, 1) := by decide +kernel
theorem dX4_takeEntries_63 : decode cX4_takeEntries 63 = .ok (.putfield 24, 3) := by decide +kernel
theorem dX4_takeEntries_66 : decode cX4_takeEntries 66 = .ok (.iinc 4 1, 3) := by decide +kernel
theorem dX4_takeEntries_69 : decode cX4_takeEntries 69 = .ok (.goto (-56), 3) := by decide +kernel
theorem dX4_takeEntries_72 : decode cX4_takeEntries 72 = .ok (.return_, 1) := by decide +kernel
theorem dX4_numberOf_0 : decode cX4_numberOf 0 = .ok (.aload_n 0, 1) := by decide +kernel
theorem dX4_numberOf_1 : decode cX4_numberOf 1 = .ok (.getfield 28, 3) := by decide +kernel
theorem dX4_numberOf_4 : decode cX4_numberOf 4 = .ok (.ifCond .eq 26, 3) := by decide +kernel
theorem dX4_numberOf_7 : decode cX4_numberOf 7 = .ok (.iload_n 1, 1) := by decide +kernel
theorem dX4_numberOf_8 : decode cX4_numberOf 8 = .ok (.ifCond .ne 22, 3) := by decide +kernel
theorem dX4_numberOf_11 : decode cX4_numberOf 11 = .ok (.iload_n 2, 1) := by decide +kernel
theorem dX4_numberOf_12 : decode cX4_numberOf 12 = .ok (.ifCond .ne 7, 3) := by decide +kernel
theorem dX4_numberOf_15 : decode cX4_numberOf 15 = .ok (.iconst 1, 1) := by decide +kernel
theorem dX4_numberOf_16 : decode cX4_numberOf 16 = .ok (.goto 13, 3) := by decide +kernel
theorem dX4_numberOf_19 : decode cX4_numberOf 19 = .ok (.aload_n 0, 1) := by decide +kernel
theorem dX4_numberOf_20 : decode cX4_numberOf 20 = .ok (.getfield 12, 3) := by decide +kernel
theorem dX4_numberOf_23 : decode cX4_numberOf 23 = .ok (.iload_n 2, 1) := by decide +kernel
theorem dX4_numberOf_24 : decode cX4_numberOf 24 = .ok (.iconst 1, 1) := by decide +kernel
theorem dX4_numberOf_25 : decode cX4_numberOf 25 = .ok (.isub, 1) := by decide +kernel
theorem dX4_numberOf_26 : decode cX4_numberOf 26 = .ok (.invokevirtual 68, 3) := by decide +kernel
theorem dX4_numberOf_29 : decode cX4_numberOf 29 = .ok (.ireturn, 1) := by decide +kernel
theorem dX4_numberOf_30 : decode cX4_numberOf 30 = .ok (.aload_n 0, 1) := by decide +kernel
theorem dX4_numberOf_31 : decode cX4_numberOf 31 = .ok (.getfield 28, 3) := by decide +kernel
theorem dX4_numberOf_34 : decode cX4_numberOf 34 = .ok (.ifCond .eq 9, 3) := by decide +kernel
theorem dX4_numberOf_37 : decode cX4_numberOf 37 = .ok (.iload_n 1, 1) := by decide +kernel
theorem dX4_numberOf_38 : decode cX4_numberOf 38 = .ok (.iconst 1, 1) := by decide +kernel
theorem dX4_numberOf_39 : decode cX4_numberOf 39 = .ok (.isub, 1) := by decide +kernel
theorem dX4_numberOf_40 : decode cX4_numberOf 40 = .ok (.goto 4, 3) := by decide +kernel
theorem dX4_numberOf_43 : decode cX4_numberOf 43 = .ok (.iload_n 1, 1) := by decide +kernel
theorem dX4_numberOf_44 : decode cX4_numberOf 44 = .ok (.istore_n 3, 1) := by decide +kernel
theorem dX4_numberOf_45 : decode cX4_numberOf 45 = .ok (.iload_n 3, 1) := by decide +kernel
theorem dX4_numberOf_46 : decode cX4_numberOf 46 = .ok (.ifCond .lt 21, 3) := by decide +kernel
theorem dX4_numberOf_49 : decode cX4_numberOf 49 = .ok (.iload_n 3, 1) := by decide +kernel
theorem dX4_numberOf_50 : decode cX4_numberOf 50 = .ok (.aload_n 0, 1) := by decide +kernel
theorem dX4_numberOf_51 : decode cX4_numberOf 51 = .ok (.getfield 20, 3) := by decide +kernel
theorem dX4_numberOf_54 : decode cX4_numberOf 54 = .ok (.arraylength, 1) := by decide +kernel
theorem dX4_numberOf_55 : decode cX4_numberOf 55 = .ok (.if_icmp .ge 12, 3) := by decide +kernel
theorem dX4_numberOf_58 : decode cX4_numberOf 58 = .ok (.aload_n 0, 1) := by decide +kernel
theorem dX4_numberOf_59 : decode cX4_numberOf 59 = .ok (.getfield 20, 3) := by decide +kernel
theorem dX4_numberOf_62 : decode cX4_numberOf 62 = .ok (.iload_n 3, 1) := by decide +kernel
theorem dX4_numberOf_63 : decode cX4_numberOf 63 = .ok (.aaload, 1) := by decide +kernel
theorem dX4_numberOf_64 : decode cX4_numberOf 64 = .ok (.goto 4, 3) := by decide +kernel
theorem dX4_numberOf_67 : decode cX4_numberOf 67 = .ok (.aconst_null, 1) := by decide +kernel
theorem dX4_numberOf_68 : decode cX4_numberOf 68 = .ok (.astore 4, 2) := by decide +kernel
theorem dX4_numberOf_70 : decode cX4_numberOf 70 = .ok (.aload 4, 2) := by decide +kernel
theorem dX4_numberOf_72 : decode cX4_numberOf 72 = .ok (.ifnonnull 5, 3) := by decide +kernel
theorem dX4_numberOf_75 : decode cX4_numberOf 75 = .ok (.iconst (-1), 1) := by decide +kernel
theorem dX4_numberOf_76 : decode cX4_numberOf 76 = .ok (.ireturn, 1) := by decide +kernel
theorem dX4_numberOf_77 : decode cX4_numberOf 77 = .ok (.iload_n 2, 1) := by decide +kernel
theorem dX4_numberOf_78 : decode cX4_numberOf 78 = .ok (.tableswitch 61 0 4 #[34, 36, 43, 49, 55], 34) := by decide +kernel
theorem dX4_numberOf_112 : decode cX4_numberOf 112 = .ok (.iconst 0, 1) := by decide +kernel
theorem dX4_numberOf_113 : decode cX4_numberOf 113 = .ok (.ireturn, 1) := by decide +kernel
theorem dX4_numberOf_114 : decode cX4_numberOf 114 = .ok (.aload_n 0, 1) := by decide +kernel
theorem dX4_numberOf_115 : decode cX4_numberOf 115 = .ok (.getfield 59, 3) := by decide +kernel
theorem dX4_numberOf_118 : decode cX4_numberOf 118 = .ok (.iload_n 3, 1) := by decide +kernel
theorem dX4_numberOf_119 : decode cX4_numberOf 119 = .ok (.iadd, 1) := by decide +kernel
theorem dX4_numberOf_120 : decode cX4_numberOf 120 = .ok (.ireturn, 1) := by decide +kernel
theorem dX4_numberOf_121 : decode cX4_numberOf 121 = .ok (.aload 4, 2) := by decide +kernel
theorem dX4_numberOf_123 : decode cX4_numberOf 123 = .ok (.getfield 72, 3) := by decide +kernel
theorem dX4_numberOf_126 : decode cX4_numberOf 126 = .ok (.ireturn, 1) := by decide +kernel
theorem dX4_numberOf_127 : decode cX4_numberOf 127 = .ok (.aload 4, 2) := by decide +kernel
theorem dX4_numberOf_129 : decode cX4_numberOf 129 = .ok (.getfield 75, 3) := by decide +kernel
theorem dX4_numberOf_132 : decode cX4_numberOf 132 = .ok (.ireturn, 1) := by decide +kernel
theorem dX4_numberOf_133 : decode cX4_numberOf 133 = .ok (.aload 4, 2) := by decide +kernel
theorem dX4_numberOf_135 : decode cX4_numberOf 135 = .ok (.getfield 78, 3) := by decide +kernel
theorem dX4_numberOf_138 : decode cX4_numberOf 138 = .ok (.ireturn, 1) := by decide +kernel
theorem dX4_numberOf_139 : decode cX4_numberOf 139 = .ok (.iconst (-1), 1) := by decide +kernel
theorem dX4_numberOf_140 : decode cX4_numberOf 140 = .ok (.ireturn, 1) := by decide +kernel
theorem dX5_init_0 : decode cX5_init 0 = .ok (.aload_n 0, 1) := by decide +kernel
theorem dX5_init_1 : decode cX5_init 1 = .ok (.invokespecial 1, 3) := by decide +kernel
theorem dX5_init_4 : decode cX5_init 4 = .ok (.aload_n 0, 1) := by decide +kernel
theorem dX5_init_5 : decode cX5_init 5 = .ok (.iload_n 1, 1) := by decide +kernel
theorem dX5_init_6 : decode cX5_init 6 = .ok (.putfield 7, 3) := by decide +kernel
theorem dX5_init_9 : decode cX5_init 9 = .ok (.aload_n 0, 1) := by decide +kernel
theorem dX5_init_10 : decode cX5_init 10 = .ok (.iload_n 2, 1) := by decide +kernel
theorem dX5_init_11 : decode cX5_init 11 = .ok (.putfield 13, 3) := by decide +kernel
theorem dX5_init_14 : decode cX5_init 14 = .ok (.aload_n 0, 1) := by decide +kernel
theorem dX5_init_15 : decode cX5_init 15 = .ok (.iload_n 3, 1) := by decide +kernel
theorem dX5_init_16 : decode cX5_init 16 = .ok (.putfield 16, 3) := by decide +kernel
theorem dX5_init_19 : decode cX5_init 19 = .ok (.aload_n 0, 1) := by decide +kernel
theorem dX5_init_20 : decode cX5_init 20 = .ok (.iload 4, 2) := by decide +kernel
theorem dX5_init_22 : decode cX5_init 22 = .ok (.putfield 19, 3) := by decide +kernel
theorem dX5_init_25 : decode cX5_init 25 = .ok (.return_, 1) := by decide +kernel
theorem dX6_init_0 : decode cX6_init 0 = .ok (.aload_n 0, 1) := by decide +kernel
theorem dX6_init_1 : decode cX6_init 1 = .ok (.invokespecial 3, 3) := by decide +kernel
theorem dX6_init_4 : decode cX6_init 4 = .ok (.aload_n 0, 1) := by decide +kernel
theorem dX6_init_5 : decode cX6_init 5 = .ok (.iconst (-1), 1) := by decide +kernel
theorem dX6_init_6 : decode cX6_init 6 = .ok (.putfield 9, 3) := by decide +kernel
theorem dX6_init_9 : decode cX6_init 9 = .ok (.aload_n 0, 1) := by decide +kernel
theorem dX6_init_10 : decode cX6_init 10 = .ok (.new 15, 3) := by decide +kernel
theorem dX6_init_13 : decode cX6_init 13 = .ok (.dup, 1) := by decide +kernel
theorem dX6_init_14 : decode cX6_init 14 = .ok (.invokespecial 17, 3) := by decide +kernel
theorem dX6_init_17 : decode cX6_init 17 = .ok (.putfield 18, 3) := by decide +kernel
theorem dX6_init_20 : decode cX6_init 20 = .ok (.return_, 1) := by decide +kernel
theorem dX6_begin_0 : decode cX6_begin 0 = .ok (.aload_n 0, 1) := by decide +kernel
theorem dX6_begin_1 : decode cX6_begin 1 = .ok (.iconst 1, 1) := by decide +kernel
theorem dX6_begin_2 : decode cX6_begin 2 = .ok (.putfield 22, 3) := by decide +kernel
theorem dX6_begin_5 : decode cX6_begin 5 = .ok (.aload_n 0, 1) := by decide +kernel
theorem dX6_begin_6 : decode cX6_begin 6 = .ok (.iload_n 1, 1) := by decide +kernel
theorem dX6_begin_7 : decode cX6_begin 7 = .ok (.putfield 26, 3) := by decide +kernel
theorem dX6_begin_10 : decode cX6_begin 10 = .ok (.aload_n 0, 1) := by decide +kernel
theorem dX6_begin_11 : decode cX6_begin 11 = .ok (.iload_n 2, 1) := by decide +kernel
theorem dX6_begin_12 : decode cX6_begin 12 = .ok (.putfield 29, 3) := by decide +kernel
theorem dX6_begin_15 : decode cX6_begin 15 = .ok (.aload_n 0, 1) := by decide +kernel
theorem dX6_begin_16 : decode cX6_begin 16 = .ok (.iload_n 3, 1) := by decide +kernel
theorem dX6_begin_17 : decode cX6_begin 17 = .ok (.putfield 32, 3) := by decide +kernel
theorem dX6_begin_20 : decode cX6_begin 20 = .ok (.aload_n 0, 1) := by decide +kernel
theorem dX6_begin_21 : decode cX6_begin 21 = .ok (.iconst (-1), 1) := by decide +kernel
theorem dX6_begin_22 : decode cX6_begin 22 = .ok (.putfield 9, 3) := by decide +kernel
theorem dX6_begin_25 : decode cX6_begin 25 = .ok (.aload_n 0, 1) := by decide +kernel
theorem dX6_begin_26 : decode cX6_begin 26 = .ok (.iconst 0, 1) := by decide +kernel
theorem dX6_begin_27 : decode cX6_begin 27 = .ok (.putfield 35, 3) := by decide +kernel
theorem dX6_begin_30 : decode cX6_begin 30 = .ok (.aload_n 0, 1) := by decide +kernel
theorem dX6_begin_31 : decode cX6_begin 31 = .ok (.iconst 0, 1) := by decide +kernel
theorem dX6_begin_32 : decode cX6_begin 32 = .ok (.putfield 38, 3) := by decide +kernel
theorem dX6_begin_35 : decode cX6_begin 35 = .ok (.aload_n 0, 1) := by decide +kernel
theorem dX6_begin_36 : decode cX6_begin 36 = .ok (.iconst 0, 1) := by decide +kernel
theorem dX6_begin_37 : decode cX6_begin 37 = .ok (.putfield 41, 3) := by decide +kernel
theorem dX6_begin_40 : decode cX6_begin 40 = .ok (.aload_n 0, 1) := by decide +kernel
theorem dX6_begin_41 : decode cX6_begin 41 = .ok (.iconst 0, 1) := by decide +kernel
theorem dX6_begin_42 : decode cX6_begin 42 = .ok (.putfield 44, 3) := by decide +kernel
theorem dX6_begin_45 : decode cX6_begin 45 = .ok (.aload_n 0, 1) := by decide +kernel
theorem dX6_begin_46 : decode cX6_begin 46 = .ok (.getfield 18, 3) := by decide +kernel
theorem dX6_begin_49 : decode cX6_begin 49 = .ok (.invokevirtual 47, 3) := by decide +kernel
theorem dX6_begin_52 : decode cX6_begin 52 = .ok (.return_, 1) := by decide +kernel
theorem dX6_isIn_0 : decode cX6_isIn 0 = .ok (.aload_n 0, 1) := by decide +kernel
theorem dX6_isIn_1 : decode cX6_isIn 1 = .ok (.getfield 22, 3) := by decide +kernel
theorem dX6_isIn_4 : decode cX6_isIn 4 = .ok (.ifCond .eq 18, 3) := by decide +kernel
theorem dX6_isIn_7 : decode cX6_isIn 7 = .ok (.aload_n 0, 1) := by decide +kernel
theorem dX6_isIn_8 : decode cX6_isIn 8 = .ok (.getfield 26, 3) := by decide +kernel
theorem dX6_isIn_11 : decode cX6_isIn 11 = .ok (.aload_n 1, 1) := by decide +kernel
theorem dX6_isIn_12 : decode cX6_isIn 12 = .ok (.getfield 50, 3) := by decide +kernel
theorem dX6_isIn_15 : decode cX6_isIn 15 = .ok (.if_icmp .ne 7, 3) := by decide +kernel
theorem dX6_isIn_18 : decode cX6_isIn 18 = .ok (.iconst 1, 1) := by decide +kernel
theorem dX6_isIn_19 : decode cX6_isIn 19 = .ok (.goto 4, 3) := by decide +kernel
theorem dX6_isIn_22 : decode cX6_isIn 22 = .ok (.iconst 0, 1) := by decide +kernel
theorem dX6_isIn_23 : decode cX6_isIn 23 = .ok (.ireturn, 1) := by decide +kernel
theorem dX6_hasPromise_0 : decode cX6_hasPromise 0 = .ok (.aload_n 0, 1) := by decide +kernel
theorem dX6_hasPromise_1 : decode cX6_hasPromise 1 = .ok (.getfield 22, 3) := by decide +kernel
theorem dX6_hasPromise_4 : decode cX6_hasPromise 4 = .ok (.ifCond .eq 15, 3) := by decide +kernel
theorem dX6_hasPromise_7 : decode cX6_hasPromise 7 = .ok (.aload_n 0, 1) := by decide +kernel
theorem dX6_hasPromise_8 : decode cX6_hasPromise 8 = .ok (.getfield 9, 3) := by decide +kernel
theorem dX6_hasPromise_11 : decode cX6_hasPromise 11 = .ok (.iconst (-1), 1) := by decide +kernel
theorem dX6_hasPromise_12 : decode cX6_hasPromise 12 = .ok (.if_icmp .eq 7, 3) := by decide +kernel
theorem dX6_hasPromise_15 : decode cX6_hasPromise 15 = .ok (.iconst 1, 1) := by decide +kernel
theorem dX6_hasPromise_16 : decode cX6_hasPromise 16 = .ok (.goto 4, 3) := by decide +kernel
theorem dX6_hasPromise_19 : decode cX6_hasPromise 19 = .ok (.iconst 0, 1) := by decide +kernel
theorem dX6_hasPromise_20 : decode cX6_hasPromise 20 = .ok (.ireturn, 1) := by decide +kernel
theorem dX6_isCovered_0 : decode cX6_isCovered 0 = .ok (.aload_n 0, 1) := by decide +kernel
theorem dX6_isCovered_1 : decode cX6_isCovered 1 = .ok (.getfield 9, 3) := by decide +kernel
theorem dX6_isCovered_4 : decode cX6_isCovered 4 = .ok (.iconst (-1), 1) := by decide +kernel
theorem dX6_isCovered_5 : decode cX6_isCovered 5 = .ok (.if_icmp .ne 13, 3) := by decide +kernel
theorem dX6_isCovered_8 : decode cX6_isCovered 8 = .ok (.iload_n 1, 1) := by decide +kernel
theorem dX6_isCovered_9 : decode cX6_isCovered 9 = .ok (.aload_n 0, 1) := by decide +kernel
theorem dX6_isCovered_10 : decode cX6_isCovered 10 = .ok (.getfield 32, 3) := by decide +kernel
theorem dX6_isCovered_13 : decode cX6_isCovered 13 = .ok (.isub, 1) := by decide +kernel
theorem dX6_isCovered_14 : decode cX6_isCovered 14 = .ok (.iload_n 2, 1) := by decide +kernel
theorem dX6_isCovered_15 : decode cX6_isCovered 15 = .ok (.if_icmp .gt 7, 3) := by decide +kernel
theorem dX6_isCovered_18 : decode cX6_isCovered 18 = .ok (.iconst 1, 1) := by decide +kernel
theorem dX6_isCovered_19 : decode cX6_isCovered 19 = .ok (.goto 4, 3) := by decide +kernel
theorem dX6_isCovered_22 : decode cX6_isCovered 22 = .ok (.iconst 0, 1) := by decide +kernel
theorem dX6_isCovered_23 : decode cX6_isCovered 23 = .ok (.ireturn, 1) := by decide +kernel
theorem dX6_comeBack_0 : decode cX6_comeBack 0 = .ok (.aload_n 0, 1) := by decide +kernel
theorem dX6_comeBack_1 : decode cX6_comeBack 1 = .ok (.iload_n 1, 1) := by decide +kernel
theorem dX6_comeBack_2 : decode cX6_comeBack 2 = .ok (.putfield 32, 3) := by decide +kernel
theorem dX6_comeBack_5 : decode cX6_comeBack 5 = .ok (.aload_n 0, 1) := by decide +kernel
theorem dX6_comeBack_6 : decode cX6_comeBack 6 = .ok (.getfield 9, 3) := by decide +kernel
theorem dX6_comeBack_9 : decode cX6_comeBack 9 = .ok (.iconst (-1), 1) := by decide +kernel
theorem dX6_comeBack_10 : decode cX6_comeBack 10 = .ok (.if_icmp .eq 18, 3) := by decide +kernel
theorem dX6_comeBack_13 : decode cX6_comeBack 13 = .ok (.aload_n 0, 1) := by decide +kernel
theorem dX6_comeBack_14 : decode cX6_comeBack 14 = .ok (.iconst (-1), 1) := by decide +kernel
theorem dX6_comeBack_15 : decode cX6_comeBack 15 = .ok (.putfield 9, 3) := by decide +kernel
theorem dX6_comeBack_18 : decode cX6_comeBack 18 = .ok (.aload_n 0, 1) := by decide +kernel
theorem dX6_comeBack_19 : decode cX6_comeBack 19 = .ok (.dup, 1) := by decide +kernel
theorem dX6_comeBack_20 : decode cX6_comeBack 20 = .ok (.getfield 35, 3) := by decide +kernel
theorem dX6_comeBack_23 : decode cX6_comeBack 23 = .ok (.iconst 1, 1) := by decide +kernel
theorem dX6_comeBack_24 : decode cX6_comeBack 24 = .ok (.iadd, 1) := by decide +kernel
theorem dX6_comeBack_25 : decode cX6_comeBack 25 = .ok (.putfield 35, 3) := by decide +kernel
theorem dX6_comeBack_28 : decode cX6_comeBack 28 = .ok (.return_, 1) := by decide +kernel
theorem dX6_breakPromiseAt_0 : decode cX6_breakPromiseAt 0 = .ok (.aload_n 0, 1) := by decide +kernel
theorem dX6_breakPromiseAt_1 : decode cX6_breakPromiseAt 1 = .ok (.invokevirtual 55, 3) := by decide +kernel
theorem dX6_breakPromiseAt_4 : decode cX6_breakPromiseAt 4 = .ok (.ifCond .eq 26, 3) := by decide +kernel
theorem dX6_breakPromiseAt_7 : decode cX6_breakPromiseAt 7 = .ok (.aload_n 0, 1) := by decide +kernel
theorem dX6_breakPromiseAt_8 : decode cX6_breakPromiseAt 8 = .ok (.getfield 9, 3) := by decide +kernel
theorem dX6_breakPromiseAt_11 : decode cX6_breakPromiseAt 11 = .ok (.iload_n 1, 1) := by decide +kernel
theorem dX6_breakPromiseAt_12 : decode cX6_breakPromiseAt 12 = .ok (.if_icmp .ge 18, 3) := by decide +kernel
theorem dX6_breakPromiseAt_15 : decode cX6_breakPromiseAt 15 = .ok (.aload_n 0, 1) := by decide +kernel
theorem dX6_breakPromiseAt_16 : decode cX6_breakPromiseAt 16 = .ok (.iconst (-1), 1) := by decide +kernel
theorem dX6_breakPromiseAt_17 : decode cX6_breakPromiseAt 17 = .ok (.putfield 9, 3) := by decide +kernel
theorem dX6_breakPromiseAt_20 : decode cX6_breakPromiseAt 20 = .ok (.aload_n 0, 1) := by decide +kernel
theorem dX6_breakPromiseAt_21 : decode cX6_breakPromiseAt 21 = .ok (.dup, 1) := by decide +kernel
theorem dX6_breakPromiseAt_22 : decode cX6_breakPromiseAt 22 = .ok (.getfield 38, 3) := by decide +kernel
theorem dX6_breakPromiseAt_25 : decode cX6_breakPromiseAt 25 = .ok (.iconst 1, 1) := by decide +kernel
theorem dX6_breakPromiseAt_26 : decode cX6_breakPromiseAt 26 = .ok (.iadd, 1) := by decide +kernel
theorem dX6_breakPromiseAt_27 : decode cX6_breakPromiseAt 27 = .ok (.putfield 38, 3) := by decide +kernel
theorem dX6_breakPromiseAt_30 : decode cX6_breakPromiseAt 30 = .ok (.return_, 1) := by decide +kernel
theorem dX6_copyFrom_0 : decode cX6_copyFrom 0 = .ok (.aload_n 0, 1) := by decide +kernel
theorem dX6_copyFrom_1 : decode cX6_copyFrom 1 = .ok (.aload_n 1, 1) := by decide +kernel
theorem dX6_copyFrom_2 : decode cX6_copyFrom 2 = .ok (.getfield 22, 3) := by decide +kernel
theorem dX6_copyFrom_5 : decode cX6_copyFrom 5 = .ok (.putfield 22, 3) := by decide +kernel
theorem dX6_copyFrom_8 : decode cX6_copyFrom 8 = .ok (.aload_n 0, 1) := by decide +kernel
theorem dX6_copyFrom_9 : decode cX6_copyFrom 9 = .ok (.aload_n 1, 1) := by decide +kernel
theorem dX6_copyFrom_10 : decode cX6_copyFrom 10 = .ok (.getfield 26, 3) := by decide +kernel
theorem dX6_copyFrom_13 : decode cX6_copyFrom 13 = .ok (.putfield 26, 3) := by decide +kernel
theorem dX6_copyFrom_16 : decode cX6_copyFrom 16 = .ok (.aload_n 0, 1) := by decide +kernel
theorem dX6_copyFrom_17 : decode cX6_copyFrom 17 = .ok (.aload_n 1, 1) := by decide +kernel
theorem dX6_copyFrom_18 : decode cX6_copyFrom 18 = .ok (.getfield 29, 3) := by decide +kernel
theorem dX6_copyFrom_21 : decode cX6_copyFrom 21 = .ok (.putfield 29, 3) := by decide +kernel
theorem dX6_copyFrom_24 : decode cX6_copyFrom 24 = .ok (.aload_n 0, 1) := by decide +kernel
theorem dX6_copyFrom_25 : decode cX6_copyFrom 25 = .ok (.aload_n 1, 1) := by decide +kernel
theorem dX6_copyFrom_26 : decode cX6_copyFrom 26 = .ok (.getfield 32, 3) := by decide +kernel
theorem dX6_copyFrom_29 : decode cX6_copyFrom 29 = .ok (.putfield 32, 3) := by decide +kernel
theorem dX6_copyFrom_32 : decode cX6_copyFrom 32 = .ok (.aload_n 0, 1) := by decide +kernel
theorem dX6_copyFrom_33 : decode cX6_copyFrom 33 = .ok (.aload_n 1, 1) := by decide +kernel
theorem dX6_copyFrom_34 : decode cX6_copyFrom 34 = .ok (.getfield 9, 3) := by decide +kernel
theorem dX6_copyFrom_37 : decode cX6_copyFrom 37 = .ok (.putfield 9, 3) := by decide +kernel
theorem dX6_copyFrom_40 : decode cX6_copyFrom 40 = .ok (.aload_n 0, 1) := by decide +kernel
theorem dX6_copyFrom_41 : decode cX6_copyFrom 41 = .ok (.aload_n 1, 1) := by decide +kernel
theorem dX6_copyFrom_42 : decode cX6_copyFrom 42 = .ok (.getfield 35, 3) := by decide +kernel
theorem dX6_copyFrom_45 : decode cX6_copyFrom 45 = .ok (.putfield 35, 3) := by decide +kernel
theorem dX6_copyFrom_48 : decode cX6_copyFrom 48 = .ok (.aload_n 0, 1) := by decide +kernel
theorem dX6_copyFrom_49 : decode cX6_copyFrom 49 = .ok (.aload_n 1, 1) := by decide +kernel
theorem dX6_copyFrom_50 : decode cX6_copyFrom 50 = .ok (.getfield 38, 3) := by decide +kernel
theorem dX6_copyFrom_53 : decode cX6_copyFrom 53 = .ok (.putfield 38, 3) := by decide +kernel
theorem dX6_copyFrom_56 : decode cX6_copyFrom 56 = .ok (.aload_n 0, 1) := by decide +kernel
theorem dX6_copyFrom_57 : decode cX6_copyFrom 57 = .ok (.aload_n 1, 1) := by decide +kernel
theorem dX6_copyFrom_58 : decode cX6_copyFrom 58 = .ok (.getfield 41, 3) := by decide +kernel
theorem dX6_copyFrom_61 : decode cX6_copyFrom 61 = .ok (.putfield 41, 3) := by decide +kernel
theorem dX6_copyFrom_64 : decode cX6_copyFrom 64 = .ok (.aload_n 0, 1) := by decide +kernel
theorem dX6_copyFrom_65 : decode cX6_copyFrom 65 = .ok (.aload_n 1, 1) := by decide +kernel
theorem dX6_copyFrom_66 : decode cX6_copyFrom 66 = .ok (.getfield 44, 3) := by decide +kernel
theorem dX6_copyFrom_69 : decode cX6_copyFrom 69 = .ok (.putfield 44, 3) := by decide +kernel
theorem dX6_copyFrom_72 : decode cX6_copyFrom 72 = .ok (.aload_n 0, 1) := by decide +kernel
theorem dX6_copyFrom_73 : decode cX6_copyFrom 73 = .ok (.getfield 22, 3) := by decide +kernel
theorem dX6_copyFrom_76 : decode cX6_copyFrom 76 = .ok (.ifCond .eq 14, 3) := by decide +kernel
theorem dX6_copyFrom_79 : decode cX6_copyFrom 79 = .ok (.aload_n 0, 1) := by decide +kernel
theorem dX6_copyFrom_80 : decode cX6_copyFrom 80 = .ok (.getfield 18, 3) := by decide +kernel
theorem dX6_copyFrom_83 : decode cX6_copyFrom 83 = .ok (.aload_n 1, 1) := by decide +kernel
theorem dX6_copyFrom_84 : decode cX6_copyFrom 84 = .ok (.getfield 18, 3) := by decide +kernel
theorem dX6_copyFrom_87 : decode cX6_copyFrom 87 = .ok (.invokevirtual 59, 3) := by decide +kernel
theorem dX6_copyFrom_90 : decode cX6_copyFrom 90 = .ok (.return_, 1) := by decide +kernel
theorem dX7_init_0 : decode cX7_init 0 = .ok (.aload_n 0, 1) := by decide +kernel
theorem dX7_init_1 : decode cX7_init 1 = .ok (.invokespecial 1, 3) := by decide +kernel
theorem dX7_init_4 : decode cX7_init 4 = .ok (.aload_n 0, 1) := by decide +kernel
theorem dX7_init_5 : decode cX7_init 5 = .ok (.bipush 7, 2) := by decide +kernel
theorem dX7_init_7 : decode cX7_init 7 = .ok (.newarray .int, 2) := by decide +kernel
theorem dX7_init_9 : decode cX7_init 9 = .ok (.dup, 1) := by decide +kernel
theorem dX7_init_10 : decode cX7_init 10 = .ok (.iconst 0, 1) := by decide +kernel
theorem dX7_init_11 : decode cX7_init 11 = .ok (.bipush 60, 2) := by decide +kernel
theorem dX7_init_13 : decode cX7_init 13 = .ok (.iastore, 1) := by decide +kernel
theorem dX7_init_14 : decode cX7_init 14 = .ok (.dup, 1) := by decide +kernel
theorem dX7_init_15 : decode cX7_init 15 = .ok (.iconst 1, 1) := by decide +kernel
theorem dX7_init_16 : decode cX7_init 16 = .ok (.bipush 120, 2) := by decide +kernel
theorem dX7_init_18 : decode cX7_init 18 = .ok (.iastore, 1) := by decide +kernel
theorem dX7_init_19 : decode cX7_init 19 = .ok (.dup, 1) := by decide +kernel
theorem dX7_init_20 : decode cX7_init 20 = .ok (.iconst 2, 1) := by decide +kernel
theorem dX7_init_21 : decode cX7_init 21 = .ok (.iconst 0, 1) := by decide +kernel
theorem dX7_init_22 : decode cX7_init 22 = .ok (.iastore, 1) := by decide +kernel
theorem dX7_init_23 : decode cX7_init 23 = .ok (.dup, 1) := by decide +kernel
theorem dX7_init_24 : decode cX7_init 24 = .ok (.iconst 3, 1) := by decide +kernel
theorem dX7_init_25 : decode cX7_init 25 = .ok (.iconst 5, 1) := by decide +kernel
theorem dX7_init_26 : decode cX7_init 26 = .ok (.iastore, 1) := by decide +kernel
theorem dX7_init_27 : decode cX7_init 27 = .ok (.dup, 1) := by decide +kernel
theorem dX7_init_28 : decode cX7_init 28 = .ok (.iconst 4, 1) := by decide +kernel
theorem dX7_init_29 : decode cX7_init 29 = .ok (.iconst 2, 1) := by decide +kernel
theorem dX7_init_30 : decode cX7_init 30 = .ok (.iastore, 1) := by decide +kernel
theorem dX7_init_31 : decode cX7_init 31 = .ok (.dup, 1) := by decide +kernel
theorem dX7_init_32 : decode cX7_init 32 = .ok (.iconst 5, 1) := by decide +kernel
theorem dX7_init_33 : decode cX7_init 33 = .ok (.bipush 20, 2) := by decide +kernel
theorem dX7_init_35 : decode cX7_init 35 = .ok (.iastore, 1) := by decide +kernel
theorem dX7_init_36 : decode cX7_init 36 = .ok (.dup, 1) := by decide +kernel
theorem dX7_init_37 : decode cX7_init 37 = .ok (.bipush 6, 2) := by decide +kernel
theorem dX7_init_39 : decode cX7_init 39 = .ok (.iconst 0, 1) := by decide +kernel
theorem dX7_init_40 : decode cX7_init 40 = .ok (.iastore, 1) := by decide +kernel
theorem dX7_init_41 : decode cX7_init 41 = .ok (.putfield 7, 3) := by decide +kernel
theorem dX7_init_44 : decode cX7_init 44 = .ok (.return_, 1) := by decide +kernel
theorem dX7_leastOf_0 : decode cX7_leastOf 0 = .ok (.iload_n 1, 1) := by decide +kernel
theorem dX7_leastOf_1 : decode cX7_leastOf 1 = .ok (.ifCond .lt 19, 3) := by decide +kernel
theorem dX7_leastOf_4 : decode cX7_leastOf 4 = .ok (.iload_n 1, 1) := by decide +kernel
theorem dX7_leastOf_5 : decode cX7_leastOf 5 = .ok (.getstatic 13, 3) := by decide +kernel
theorem dX7_leastOf_8 : decode cX7_leastOf 8 = .ok (.arraylength, 1) := by decide +kernel
theorem dX7_leastOf_9 : decode cX7_leastOf 9 = .ok (.if_icmp .ge 11, 3) := by decide +kernel
theorem dX7_leastOf_12 : decode cX7_leastOf 12 = .ok (.getstatic 13, 3) := by decide +kernel
theorem dX7_leastOf_15 : decode cX7_leastOf 15 = .ok (.iload_n 1, 1) := by decide +kernel
theorem dX7_leastOf_16 : decode cX7_leastOf 16 = .ok (.iaload, 1) := by decide +kernel
theorem dX7_leastOf_17 : decode cX7_leastOf 17 = .ok (.goto 4, 3) := by decide +kernel
theorem dX7_leastOf_20 : decode cX7_leastOf 20 = .ok (.iconst 0, 1) := by decide +kernel
theorem dX7_leastOf_21 : decode cX7_leastOf 21 = .ok (.ireturn, 1) := by decide +kernel
theorem dX7_mostOf_0 : decode cX7_mostOf 0 = .ok (.iload_n 1, 1) := by decide +kernel
theorem dX7_mostOf_1 : decode cX7_mostOf 1 = .ok (.ifCond .lt 19, 3) := by decide +kernel
theorem dX7_mostOf_4 : decode cX7_mostOf 4 = .ok (.iload_n 1, 1) := by decide +kernel
theorem dX7_mostOf_5 : decode cX7_mostOf 5 = .ok (.getstatic 16, 3) := by decide +kernel
theorem dX7_mostOf_8 : decode cX7_mostOf 8 = .ok (.arraylength, 1) := by decide +kernel
theorem dX7_mostOf_9 : decode cX7_mostOf 9 = .ok (.if_icmp .ge 11, 3) := by decide +kernel
theorem dX7_mostOf_12 : decode cX7_mostOf 12 = .ok (.getstatic 16, 3) := by decide +kernel
theorem dX7_mostOf_15 : decode cX7_mostOf 15 = .ok (.iload_n 1, 1) := by decide +kernel
theorem dX7_mostOf_16 : decode cX7_mostOf 16 = .ok (.iaload, 1) := by decide +kernel
theorem dX7_mostOf_17 : decode cX7_mostOf 17 = .ok (.goto 4, 3) := by decide +kernel
theorem dX7_mostOf_20 : decode cX7_mostOf 20 = .ok (.iconst 0, 1) := by decide +kernel
theorem dX7_mostOf_21 : decode cX7_mostOf 21 = .ok (.ireturn, 1) := by decide +kernel
theorem dX7_valueOf_0 : decode cX7_valueOf 0 = .ok (.iload_n 1, 1) := by decide +kernel
theorem dX7_valueOf_1 : decode cX7_valueOf 1 = .ok (.ifCond .lt 21, 3) := by decide +kernel
theorem dX7_valueOf_4 : decode cX7_valueOf 4 = .ok (.iload_n 1, 1) := by decide +kernel
theorem dX7_valueOf_5 : decode cX7_valueOf 5 = .ok (.aload_n 0, 1) := by decide +kernel
theorem dX7_valueOf_6 : decode cX7_valueOf 6 = .ok (.getfield 7, 3) := by decide +kernel
theorem dX7_valueOf_9 : decode cX7_valueOf 9 = .ok (.arraylength, 1) := by decide +kernel
theorem dX7_valueOf_10 : decode cX7_valueOf 10 = .ok (.if_icmp .ge 12, 3) := by decide +kernel
theorem dX7_valueOf_13 : decode cX7_valueOf 13 = .ok (.aload_n 0, 1) := by decide +kernel
theorem dX7_valueOf_14 : decode cX7_valueOf 14 = .ok (.getfield 7, 3) := by decide +kernel
theorem dX7_valueOf_17 : decode cX7_valueOf 17 = .ok (.iload_n 1, 1) := by decide +kernel
theorem dX7_valueOf_18 : decode cX7_valueOf 18 = .ok (.iaload, 1) := by decide +kernel
theorem dX7_valueOf_19 : decode cX7_valueOf 19 = .ok (.goto 4, 3) := by decide +kernel
theorem dX7_valueOf_22 : decode cX7_valueOf 22 = .ok (.iconst 0, 1) := by decide +kernel
theorem dX7_valueOf_23 : decode cX7_valueOf 23 = .ok (.ireturn, 1) := by decide +kernel
theorem dX7_change_0 : decode cX7_change 0 = .ok (.iload_n 1, 1) := by decide +kernel
theorem dX7_change_1 : decode cX7_change 1 = .ok (.ifCond .lt 19, 3) := by decide +kernel
theorem dX7_change_4 : decode cX7_change 4 = .ok (.iload_n 1, 1) := by decide +kernel
theorem dX7_change_5 : decode cX7_change 5 = .ok (.aload_n 0, 1) := by decide +kernel
theorem dX7_change_6 : decode cX7_change 6 = .ok (.getfield 7, 3) := by decide +kernel
theorem dX7_change_9 : decode cX7_change 9 = .ok (.arraylength, 1) := by decide +kernel
theorem dX7_change_10 : decode cX7_change 10 = .ok (.if_icmp .ge 10, 3) := by decide +kernel
theorem dX7_change_13 : decode cX7_change 13 = .ok (.aload_n 0, 1) := by decide +kernel
theorem dX7_change_14 : decode cX7_change 14 = .ok (.getfield 7, 3) := by decide +kernel
theorem dX7_change_17 : decode cX7_change 17 = .ok (.iload_n 1, 1) := by decide +kernel
theorem dX7_change_18 : decode cX7_change 18 = .ok (.iload_n 2, 1) := by decide +kernel
theorem dX7_change_19 : decode cX7_change 19 = .ok (.iastore, 1) := by decide +kernel
theorem dX7_change_20 : decode cX7_change 20 = .ok (.return_, 1) := by decide +kernel
theorem dX8_init_0 : decode cX8_init 0 = .ok (.aload_n 0, 1) := by decide +kernel
theorem dX8_init_1 : decode cX8_init 1 = .ok (.invokespecial 3, 3) := by decide +kernel
theorem dX8_init_4 : decode cX8_init 4 = .ok (.aload_n 0, 1) := by decide +kernel
theorem dX8_init_5 : decode cX8_init 5 = .ok (.sipush 700, 3) := by decide +kernel
theorem dX8_init_8 : decode cX8_init 8 = .ok (.newarray .byte, 2) := by decide +kernel
theorem dX8_init_10 : decode cX8_init 10 = .ok (.putfield 11, 3) := by decide +kernel
theorem dX8_init_13 : decode cX8_init 13 = .ok (.aload_n 0, 1) := by decide +kernel
theorem dX8_init_14 : decode cX8_init 14 = .ok (.bipush 60, 2) := by decide +kernel
theorem dX8_init_16 : decode cX8_init 16 = .ok (.anewarray 15, 3) := by decide +kernel
theorem dX8_init_19 : decode cX8_init 19 = .ok (.putfield 17, 3) := by decide +kernel
theorem dX8_init_22 : decode cX8_init 22 = .ok (.aload_n 0, 1) := by decide +kernel
theorem dX8_init_23 : decode cX8_init 23 = .ok (.sipush 240, 3) := by decide +kernel
theorem dX8_init_26 : decode cX8_init 26 = .ok (.newarray .int, 2) := by decide +kernel
theorem dX8_init_28 : decode cX8_init 28 = .ok (.putfield 21, 3) := by decide +kernel
theorem dX8_init_31 : decode cX8_init 31 = .ok (.aload_n 0, 1) := by decide +kernel
theorem dX8_init_32 : decode cX8_init 32 = .ok (.iconst (-1), 1) := by decide +kernel
theorem dX8_init_33 : decode cX8_init 33 = .ok (.putfield 25, 3) := by decide +kernel
theorem dX8_init_36 : decode cX8_init 36 = .ok (.return_, 1) := by decide +kernel
theorem dX8_hasRoomForFour_0 : decode cX8_hasRoomForFour 0 = .ok (.aload_n 0, 1) := by decide +kernel
theorem dX8_hasRoomForFour_1 : decode cX8_hasRoomForFour 1 = .ok (.getfield 29, 3) := by decide +kernel
theorem dX8_hasRoomForFour_4 : decode cX8_hasRoomForFour 4 = .ok (.sipush 696, 3) := by decide +kernel
theorem dX8_hasRoomForFour_7 : decode cX8_hasRoomForFour 7 = .ok (.if_icmp .gt 7, 3) := by decide +kernel
theorem dX8_hasRoomForFour_10 : decode cX8_hasRoomForFour 10 = .ok (.iconst 1, 1) := by decide +kernel
theorem dX8_hasRoomForFour_11 : decode cX8_hasRoomForFour 11 = .ok (.goto 4, 3) := by decide +kernel
theorem dX8_hasRoomForFour_14 : decode cX8_hasRoomForFour 14 = .ok (.iconst 0, 1) := by decide +kernel
theorem dX8_hasRoomForFour_15 : decode cX8_hasRoomForFour 15 = .ok (.ireturn, 1) := by decide +kernel
theorem dX8_addFour_0 : decode cX8_addFour 0 = .ok (.bipush 24, 2) := by decide +kernel
theorem dX8_addFour_2 : decode cX8_addFour 2 = .ok (.istore_n 2, 1) := by decide +kernel
theorem dX8_addFour_3 : decode cX8_addFour 3 = .ok (.iload_n 2, 1) := by decide +kernel
theorem dX8_addFour_4 : decode cX8_addFour 4 = .ok (.ifCond .lt 51, 3) := by decide +kernel
theorem dX8_addFour_7 : decode cX8_addFour 7 = .ok (.aload_n 0, 1) := by decide +kernel
theorem dX8_addFour_8 : decode cX8_addFour 8 = .ok (.getfield 29, 3) := by decide +kernel
theorem dX8_addFour_11 : decode cX8_addFour 11 = .ok (.ifCond .lt 38, 3) := by decide +kernel
theorem dX8_addFour_14 : decode cX8_addFour 14 = .ok (.aload_n 0, 1) := by decide +kernel
theorem dX8_addFour_15 : decode cX8_addFour 15 = .ok (.getfield 29, 3) := by decide +kernel
theorem dX8_addFour_18 : decode cX8_addFour 18 = .ok (.aload_n 0, 1) := by decide +kernel
theorem dX8_addFour_19 : decode cX8_addFour 19 = .ok (.getfield 11, 3) := by decide +kernel
theorem dX8_addFour_22 : decode cX8_addFour 22 = .ok (.arraylength, 1) := by decide +kernel
theorem dX8_addFour_23 : decode cX8_addFour 23 = .ok (.if_icmp .ge 26, 3) := by decide +kernel
theorem dX8_addFour_26 : decode cX8_addFour 26 = .ok (.aload_n 0, 1) := by decide +kernel
theorem dX8_addFour_27 : decode cX8_addFour 27 = .ok (.getfield 11, 3) := by decide +kernel
theorem dX8_addFour_30 : decode cX8_addFour 30 = .ok (.aload_n 0, 1) := by decide +kernel
theorem dX8_addFour_31 : decode cX8_addFour 31 = .ok (.getfield 29, 3) := by decide +kernel
theorem dX8_addFour_34 : decode cX8_addFour 34 = .ok (.iload_n 1, 1) := by decide +kernel
theorem dX8_addFour_35 : decode cX8_addFour 35 = .ok (.iload_n 2, 1) := by decide +kernel
theorem dX8_addFour_36 : decode cX8_addFour 36 = .ok (.iushr, 1) := by decide +kernel
theorem dX8_addFour_37 : decode cX8_addFour 37 = .ok (.i2b, 1) := by decide +kernel
theorem dX8_addFour_38 : decode cX8_addFour 38 = .ok (.bastore, 1) := by decide +kernel
theorem dX8_addFour_39 : decode cX8_addFour 39 = .ok (.aload_n 0, 1) := by decide +kernel
theorem dX8_addFour_40 : decode cX8_addFour 40 = .ok (.dup, 1) := by decide +kernel
theorem dX8_addFour_41 : decode cX8_addFour 41 = .ok (.getfield 29, 3) := by decide +kernel
theorem dX8_addFour_44 : decode cX8_addFour 44 = .ok (.iconst 1, 1) := by decide +kernel
theorem dX8_addFour_45 : decode cX8_addFour 45 = .ok (.iadd, 1) := by decide +kernel
theorem dX8_addFour_46 : decode cX8_addFour 46 = .ok (.putfield 29, 3) := by decide +kernel
theorem dX8_addFour_49 : decode cX8_addFour 49 = .ok (.iinc 2 (-8), 3) := by decide +kernel
theorem dX8_addFour_52 : decode cX8_addFour 52 = .ok (.goto (-49), 3) := by decide +kernel
theorem dX8_addFour_55 : decode cX8_addFour 55 = .ok (.aload_n 0, 1) := by decide +kernel
theorem dX8_addFour_56 : decode cX8_addFour 56 = .ok (.getfield 29, 3) := by decide +kernel
theorem dX8_addFour_59 : decode cX8_addFour 59 = .ok (.ireturn, 1) := by decide +kernel
theorem dX8_verbOf_0 : decode cX8_verbOf 0 = .ok (.iload_n 1, 1) := by decide +kernel
theorem dX8_verbOf_1 : decode cX8_verbOf 1 = .ok (.ifCond .lt 29, 3) := by decide +kernel
theorem dX8_verbOf_4 : decode cX8_verbOf 4 = .ok (.iload_n 1, 1) := by decide +kernel
theorem dX8_verbOf_5 : decode cX8_verbOf 5 = .ok (.aload_n 0, 1) := by decide +kernel
theorem dX8_verbOf_6 : decode cX8_verbOf 6 = .ok (.getfield 32, 3) := by decide +kernel
theorem dX8_verbOf_9 : decode cX8_verbOf 9 = .ok (.if_icmp .ge 21, 3) := by decide +kernel
theorem dX8_verbOf_12 : decode cX8_verbOf 12 = .ok (.iload_n 1, 1) := by decide +kernel
theorem dX8_verbOf_13 : decode cX8_verbOf 13 = .ok (.aload_n 0, 1) := by decide +kernel
theorem dX8_verbOf_14 : decode cX8_verbOf 14 = .ok (.getfield 17, 3) := by decide +kernel
theorem dX8_verbOf_17 : decode cX8_verbOf 17 = .ok (.arraylength, 1) := by decide +kernel
theorem dX8_verbOf_18 : decode cX8_verbOf 18 = .ok (.if_icmp .ge 12, 3) := by decide +kernel
theorem dX8_verbOf_21 : decode cX8_verbOf 21 = .ok (.aload_n 0, 1) := by decide +kernel
theorem dX8_verbOf_22 : decode cX8_verbOf 22 = .ok (.getfield 17, 3) := by decide +kernel
theorem dX8_verbOf_25 : decode cX8_verbOf 25 = .ok (.iload_n 1, 1) := by decide +kernel
theorem dX8_verbOf_26 : decode cX8_verbOf 26 = .ok (.aaload, 1) := by decide +kernel
theorem dX8_verbOf_27 : decode cX8_verbOf 27 = .ok (.goto 4, 3) := by decide +kernel
theorem dX8_verbOf_30 : decode cX8_verbOf 30 = .ok (.aconst_null, 1) := by decide +kernel
theorem dX8_verbOf_31 : decode cX8_verbOf 31 = .ok (.areturn, 1) := by decide +kernel
theorem dX8_operandOf_0 : decode cX8_operandOf 0 = .ok (.iload_n 1, 1) := by decide +kernel
theorem dX8_operandOf_1 : decode cX8_operandOf 1 = .ok (.iconst 4, 1) := by decide +kernel
theorem dX8_operandOf_2 : decode cX8_operandOf 2 = .ok (.imul, 1) := by decide +kernel
theorem dX8_operandOf_3 : decode cX8_operandOf 3 = .ok (.iload_n 2, 1) := by decide +kernel
theorem dX8_operandOf_4 : decode cX8_operandOf 4 = .ok (.iadd, 1) := by decide +kernel
theorem dX8_operandOf_5 : decode cX8_operandOf 5 = .ok (.istore_n 3, 1) := by decide +kernel
theorem dX8_operandOf_6 : decode cX8_operandOf 6 = .ok (.iload_n 3, 1) := by decide +kernel
theorem dX8_operandOf_7 : decode cX8_operandOf 7 = .ok (.ifCond .lt 21, 3) := by decide +kernel
theorem dX8_operandOf_10 : decode cX8_operandOf 10 = .ok (.iload_n 3, 1) := by decide +kernel
theorem dX8_operandOf_11 : decode cX8_operandOf 11 = .ok (.aload_n 0, 1) := by decide +kernel
theorem dX8_operandOf_12 : decode cX8_operandOf 12 = .ok (.getfield 21, 3) := by decide +kernel
theorem dX8_operandOf_15 : decode cX8_operandOf 15 = .ok (.arraylength, 1) := by decide +kernel
theorem dX8_operandOf_16 : decode cX8_operandOf 16 = .ok (.if_icmp .ge 12, 3) := by decide +kernel
theorem dX8_operandOf_19 : decode cX8_operandOf 19 = .ok (.aload_n 0, 1) := by decide +kernel
theorem dX8_operandOf_20 : decode cX8_operandOf 20 = .ok (.getfield 21, 3) := by decide +kernel
theorem dX8_operandOf_23 : decode cX8_operandOf 23 = .ok (.iload_n 3, 1) := by decide +kernel
theorem dX8_operandOf_24 : decode cX8_operandOf 24 = .ok (.iaload, 1) := by decide +kernel
theorem dX8_operandOf_25 : decode cX8_operandOf 25 = .ok (.goto 4, 3) := by decide +kernel
theorem dX8_operandOf_28 : decode cX8_operandOf 28 = .ok (.iconst 0, 1) := by decide +kernel
theorem dX8_operandOf_29 : decode cX8_operandOf 29 = .ok (.ireturn, 1) := by decide +kernel
theorem dX8_parse_0 : decode cX8_parse 0 = .ok (.aload_n 0, 1) := by decide +kernel
theorem dX8_parse_1 : decode cX8_parse 1 = .ok (.iconst 0, 1) := by decide +kernel
theorem dX8_parse_2 : decode cX8_parse 2 = .ok (.putfield 32, 3) := by decide +kernel
theorem dX8_parse_5 : decode cX8_parse 5 = .ok (.aload_n 0, 1) := by decide +kernel
theorem dX8_parse_6 : decode cX8_parse 6 = .ok (.iconst 0, 1) := by decide +kernel
theorem dX8_parse_7 : decode cX8_parse 7 = .ok (.putfield 35, 3) := by decide +kernel
theorem dX8_parse_10 : decode cX8_parse 10 = .ok (.aload_n 0, 1) := by decide +kernel
theorem dX8_parse_11 : decode cX8_parse 11 = .ok (.iconst (-1), 1) := by decide +kernel
theorem dX8_parse_12 : decode cX8_parse 12 = .ok (.putfield 25, 3) := by decide +kernel
theorem dX8_parse_15 : decode cX8_parse 15 = .ok (.aload_n 0, 1) := by decide +kernel
theorem dX8_parse_16 : decode cX8_parse 16 = .ok (.iconst 0, 1) := by decide +kernel
theorem dX8_parse_17 : decode cX8_parse 17 = .ok (.putfield 38, 3) := by decide +kernel
theorem dX8_parse_20 : decode cX8_parse 20 = .ok (.aload_n 0, 1) := by decide +kernel
theorem dX8_parse_21 : decode cX8_parse 21 = .ok (.invokevirtual 41, 3) := by decide +kernel
theorem dX8_parse_24 : decode cX8_parse 24 = .ok (.iconst 1, 1) := by decide +kernel
theorem dX8_parse_25 : decode cX8_parse 25 = .ok (.istore_n 1, 1) := by decide +kernel
theorem dX8_parse_26 : decode cX8_parse 26 = .ok (.iconst 0, 1) := by decide +kernel
theorem dX8_parse_27 : decode cX8_parse 27 = .ok (.istore_n 2, 1) := by decide +kernel
theorem dX8_parse_28 : decode cX8_parse 28 = .ok (.iload_n 2, 1) := by decide +kernel
theorem dX8_parse_29 : decode cX8_parse 29 = .ok (.bipush 60, 2) := by decide +kernel
theorem dX8_parse_31 : decode cX8_parse 31 = .ok (.if_icmp .gt 25, 3) := by decide +kernel
theorem dX8_parse_34 : decode cX8_parse 34 = .ok (.iload_n 1, 1) := by decide +kernel
theorem dX8_parse_35 : decode cX8_parse 35 = .ok (.ifCond .eq 21, 3) := by decide +kernel
theorem dX8_parse_38 : decode cX8_parse 38 = .ok (.aload_n 0, 1) := by decide +kernel
theorem dX8_parse_39 : decode cX8_parse 39 = .ok (.getfield 44, 3) := by decide +kernel
theorem dX8_parse_42 : decode cX8_parse 42 = .ok (.ifCond .eq 14, 3) := by decide +kernel
theorem dX8_parse_45 : decode cX8_parse 45 = .ok (.aload_n 0, 1) := by decide +kernel
theorem dX8_parse_46 : decode cX8_parse 46 = .ok (.invokevirtual 47, 3) := by decide +kernel
theorem dX8_parse_49 : decode cX8_parse 49 = .ok (.istore_n 1, 1) := by decide +kernel
theorem dX8_parse_50 : decode cX8_parse 50 = .ok (.iinc 2 1, 3) := by decide +kernel
theorem dX8_parse_53 : decode cX8_parse 53 = .ok (.goto (-25), 3) := by decide +kernel
theorem dX8_parse_56 : decode cX8_parse 56 = .ok (.iload_n 1, 1) := by decide +kernel
theorem dX8_parse_57 : decode cX8_parse 57 = .ok (.ireturn, 1) := by decide +kernel
theorem dX8_parseCommand_0 : decode cX8_parseCommand 0 = .ok (.aload_n 0, 1) := by decide +kernel
theorem dX8_parseCommand_1 : decode cX8_parseCommand 1 = .ok (.invokevirtual 51, 3) := by decide +kernel
theorem dX8_parseCommand_4 : decode cX8_parseCommand 4 = .ok (.astore_n 1, 1) := by decide +kernel
theorem dX8_parseCommand_5 : decode cX8_parseCommand 5 = .ok (.aload_n 1, 1) := by decide +kernel
theorem dX8_parseCommand_6 : decode cX8_parseCommand 6 = .ok (.ifnonnull 9, 3) := by decide +kernel
theorem dX8_parseCommand_9 : decode cX8_parseCommand 9 = .ok (.aload_n 0, 1) := by decide +kernel
theorem dX8_parseCommand_10 : decode cX8_parseCommand 10 = .ok (.iconst 1, 1) := by decide +kernel
theorem dX8_parseCommand_11 : decode cX8_parseCommand 11 = .ok (.invokevirtual 55, 3) := by decide +kernel
theorem dX8_parseCommand_14 : decode cX8_parseCommand 14 = .ok (.ireturn, 1) := by decide +kernel
theorem dX8_parseCommand_15 : decode cX8_parseCommand 15 = .ok (.aload_n 0, 1) := by decide +kernel
theorem dX8_parseCommand_16 : decode cX8_parseCommand 16 = .ok (.getfield 32, 3) := by decide +kernel
theorem dX8_parseCommand_19 : decode cX8_parseCommand 19 = .ok (.ifCond .lt 15, 3) := by decide +kernel
theorem dX8_parseCommand_22 : decode cX8_parseCommand 22 = .ok (.aload_n 0, 1) := by decide +kernel
theorem dX8_parseCommand_23 : decode cX8_parseCommand 23 = .ok (.getfield 32, 3) := by decide +kernel
theorem dX8_parseCommand_26 : decode cX8_parseCommand 26 = .ok (.aload_n 0, 1) := by decide +kernel
theorem dX8_parseCommand_27 : decode cX8_parseCommand 27 = .ok (.getfield 17, 3) := by decide +kernel
theorem dX8_parseCommand_30 : decode cX8_parseCommand 30 = .ok (.arraylength, 1) := by decide +kernel
theorem dX8_parseCommand_31 : decode cX8_parseCommand 31 = .ok (.if_icmp .lt 9, 3) := by decide +kernel
theorem dX8_parseCommand_34 : decode cX8_parseCommand 34 = .ok (.aload_n 0, 1) := by decide +kernel
theorem dX8_parseCommand_35 : decode cX8_parseCommand 35 = .ok (.iconst 3, 1) := by decide +kernel
theorem dX8_parseCommand_36 : decode cX8_parseCommand 36 = .ok (.invokevirtual 55, 3) := by decide +kernel
theorem dX8_parseCommand_39 : decode cX8_parseCommand 39 = .ok (.ireturn, 1) := by decide +kernel
theorem dX8_parseCommand_40 : decode cX8_parseCommand 40 = .ok (.aload_n 0, 1) := by decide +kernel
theorem dX8_parseCommand_41 : decode cX8_parseCommand 41 = .ok (.getfield 17, 3) := by decide +kernel
theorem dX8_parseCommand_44 : decode cX8_parseCommand 44 = .ok (.aload_n 0, 1) := by decide +kernel
theorem dX8_parseCommand_45 : decode cX8_parseCommand 45 = .ok (.getfield 32, 3) := by decide +kernel
theorem dX8_parseCommand_48 : decode cX8_parseCommand 48 = .ok (.aload_n 1, 1) := by decide +kernel
theorem dX8_parseCommand_49 : decode cX8_parseCommand 49 = .ok (.aastore, 1) := by decide +kernel
theorem dX8_parseCommand_50 : decode cX8_parseCommand 50 = .ok (.aload_n 0, 1) := by decide +kernel
theorem dX8_parseCommand_51 : decode cX8_parseCommand 51 = .ok (.invokevirtual 41, 3) := by decide +kernel
theorem dX8_parseCommand_54 : decode cX8_parseCommand 54 = .ok (.iconst 0, 1) := by decide +kernel
theorem dX8_parseCommand_55 : decode cX8_parseCommand 55 = .ok (.istore_n 2, 1) := by decide +kernel
theorem dX8_parseCommand_56 : decode cX8_parseCommand 56 = .ok (.iload_n 2, 1) := by decide +kernel
theorem dX8_parseCommand_57 : decode cX8_parseCommand 57 = .ok (.aload_n 1, 1) := by decide +kernel
theorem dX8_parseCommand_58 : decode cX8_parseCommand 58 = .ok (.getfield 59, 3) := by decide +kernel
theorem dX8_parseCommand_61 : decode cX8_parseCommand 61 = .ok (.invokevirtual 62, 3) := by decide +kernel
theorem dX8_parseCommand_64 : decode cX8_parseCommand 64 = .ok (.if_icmp .ge 34, 3) := by decide +kernel
theorem dX8_parseCommand_67 : decode cX8_parseCommand 67 = .ok (.aload_n 0, 1) := by decide +kernel
theorem dX8_parseCommand_68 : decode cX8_parseCommand 68 = .ok (.aload_n 1, 1) := by decide +kernel
theorem dX8_parseCommand_69 : decode cX8_parseCommand 69 = .ok (.getfield 59, 3) := by decide +kernel
theorem dX8_parseCommand_72 : decode cX8_parseCommand 72 = .ok (.iload_n 2, 1) := by decide +kernel
theorem dX8_parseCommand_73 : decode cX8_parseCommand 73 = .ok (.invokevirtual 67, 3) := by decide +kernel
theorem dX8_parseCommand_76 : decode cX8_parseCommand 76 = .ok (.aload_n 0, 1) := by decide +kernel
theorem dX8_parseCommand_77 : decode cX8_parseCommand 77 = .ok (.getfield 32, 3) := by decide +kernel
theorem dX8_parseCommand_80 : decode cX8_parseCommand 80 = .ok (.iconst 4, 1) := by decide +kernel
theorem dX8_parseCommand_81 : decode cX8_parseCommand 81 = .ok (.imul, 1) := by decide +kernel
theorem dX8_parseCommand_82 : decode cX8_parseCommand 82 = .ok (.iload_n 2, 1) := by decide +kernel
theorem dX8_parseCommand_83 : decode cX8_parseCommand 83 = .ok (.iadd, 1) := by decide +kernel
theorem dX8_parseCommand_84 : decode cX8_parseCommand 84 = .ok (.invokevirtual 71, 3) := by decide +kernel
theorem dX8_parseCommand_87 : decode cX8_parseCommand 87 = .ok (.ifCond .ne 5, 3) := by decide +kernel
theorem dX8_parseCommand_90 : decode cX8_parseCommand 90 = .ok (.iconst 0, 1) := by decide +kernel
theorem dX8_parseCommand_91 : decode cX8_parseCommand 91 = .ok (.ireturn, 1) := by decide +kernel
theorem dX8_parseCommand_92 : decode cX8_parseCommand 92 = .ok (.iinc 2 1, 3) := by decide +kernel
theorem dX8_parseCommand_95 : decode cX8_parseCommand 95 = .ok (.goto (-39), 3) := by decide +kernel
theorem dX8_parseCommand_98 : decode cX8_parseCommand 98 = .ok (.aload_n 0, 1) := by decide +kernel
theorem dX8_parseCommand_99 : decode cX8_parseCommand 99 = .ok (.getfield 44, 3) := by decide +kernel
theorem dX8_parseCommand_102 : decode cX8_parseCommand 102 = .ok (.iconst 4, 1) := by decide +kernel
theorem dX8_parseCommand_103 : decode cX8_parseCommand 103 = .ok (.if_icmp .eq 9, 3) := by decide +kernel
theorem dX8_parseCommand_106 : decode cX8_parseCommand 106 = .ok (.aload_n 0, 1) := by decide +kernel
theorem dX8_parseCommand_107 : decode cX8_parseCommand 107 = .ok (.iconst 1, 1) := by decide +kernel
theorem dX8_parseCommand_108 : decode cX8_parseCommand 108 = .ok (.invokevirtual 55, 3) := by decide +kernel
theorem dX8_parseCommand_111 : decode cX8_parseCommand 111 = .ok (.ireturn, 1) := by decide +kernel
theorem dX8_parseCommand_112 : decode cX8_parseCommand 112 = .ok (.aload_n 0, 1) := by decide +kernel
theorem dX8_parseCommand_113 : decode cX8_parseCommand 113 = .ok (.dup, 1) := by decide +kernel
theorem dX8_parseCommand_114 : decode cX8_parseCommand 114 = .ok (.getfield 32, 3) := by decide +kernel
theorem dX8_parseCommand_117 : decode cX8_parseCommand 117 = .ok (.iconst 1, 1) := by decide +kernel
theorem dX8_parseCommand_118 : decode cX8_parseCommand 118 = .ok (.iadd, 1) := by decide +kernel
theorem dX8_parseCommand_119 : decode cX8_parseCommand 119 = .ok (.putfield 32, 3) := by decide +kernel
theorem dX8_parseCommand_122 : decode cX8_parseCommand 122 = .ok (.aload_n 0, 1) := by decide +kernel
theorem dX8_parseCommand_123 : decode cX8_parseCommand 123 = .ok (.invokevirtual 41, 3) := by decide +kernel
theorem dX8_parseCommand_126 : decode cX8_parseCommand 126 = .ok (.iconst 1, 1) := by decide +kernel
theorem dX8_parseCommand_127 : decode cX8_parseCommand 127 = .ok (.ireturn, 1) := by decide +kernel
theorem dX8_parseOperand_0 : decode cX8_parseOperand 0 = .ok (.iload_n 1, 1) := by decide +kernel
theorem dX8_parseOperand_1 : decode cX8_parseOperand 1 = .ok (.bipush 101, 2) := by decide +kernel
theorem dX8_parseOperand_3 : decode cX8_parseOperand 3 = .ok (.if_icmp .ne 9, 3) := by decide +kernel
theorem dX8_parseOperand_6 : decode cX8_parseOperand 6 = .ok (.aload_n 0, 1) := by decide +kernel
theorem dX8_parseOperand_7 : decode cX8_parseOperand 7 = .ok (.iload_n 2, 1) := by decide +kernel
theorem dX8_parseOperand_8 : decode cX8_parseOperand 8 = .ok (.invokevirtual 75, 3) := by decide +kernel
theorem dX8_parseOperand_11 : decode cX8_parseOperand 11 = .ok (.ireturn, 1) := by decide +kernel
theorem dX8_parseOperand_12 : decode cX8_parseOperand 12 = .ok (.iload_n 1, 1) := by decide +kernel
theorem dX8_parseOperand_13 : decode cX8_parseOperand 13 = .ok (.bipush 118, 2) := by decide +kernel
theorem dX8_parseOperand_15 : decode cX8_parseOperand 15 = .ok (.if_icmp .ne 15, 3) := by decide +kernel
theorem dX8_parseOperand_18 : decode cX8_parseOperand 18 = .ok (.aload_n 0, 1) := by decide +kernel
theorem dX8_parseOperand_19 : decode cX8_parseOperand 19 = .ok (.getfield 44, 3) := by decide +kernel
theorem dX8_parseOperand_22 : decode cX8_parseOperand 22 = .ok (.iconst 3, 1) := by decide +kernel
theorem dX8_parseOperand_23 : decode cX8_parseOperand 23 = .ok (.if_icmp .ne 7, 3) := by decide +kernel
theorem dX8_parseOperand_26 : decode cX8_parseOperand 26 = .ok (.iconst 1, 1) := by decide +kernel
theorem dX8_parseOperand_27 : decode cX8_parseOperand 27 = .ok (.goto 4, 3) := by decide +kernel
theorem dX8_parseOperand_30 : decode cX8_parseOperand 30 = .ok (.iconst 0, 1) := by decide +kernel
theorem dX8_parseOperand_31 : decode cX8_parseOperand 31 = .ok (.istore_n 3, 1) := by decide +kernel
theorem dX8_parseOperand_32 : decode cX8_parseOperand 32 = .ok (.iload_n 3, 1) := by decide +kernel
theorem dX8_parseOperand_33 : decode cX8_parseOperand 33 = .ok (.ifCond .eq 7, 3) := by decide +kernel
theorem dX8_parseOperand_36 : decode cX8_parseOperand 36 = .ok (.aload_n 0, 1) := by decide +kernel
theorem dX8_parseOperand_37 : decode cX8_parseOperand 37 = .ok (.invokevirtual 41, 3) := by decide +kernel
theorem dX8_parseOperand_40 : decode cX8_parseOperand 40 = .ok (.aload_n 0, 1) := by decide +kernel
theorem dX8_parseOperand_41 : decode cX8_parseOperand 41 = .ok (.getfield 44, 3) := by decide +kernel
theorem dX8_parseOperand_44 : decode cX8_parseOperand 44 = .ok (.iconst 2, 1) := by decide +kernel
theorem dX8_parseOperand_45 : decode cX8_parseOperand 45 = .ok (.if_icmp .eq 9, 3) := by decide +kernel
theorem dX8_parseOperand_48 : decode cX8_parseOperand 48 = .ok (.aload_n 0, 1) := by decide +kernel
theorem dX8_parseOperand_49 : decode cX8_parseOperand 49 = .ok (.iconst 1, 1) := by decide +kernel
theorem dX8_parseOperand_50 : decode cX8_parseOperand 50 = .ok (.invokevirtual 55, 3) := by decide +kernel
theorem dX8_parseOperand_53 : decode cX8_parseOperand 53 = .ok (.ireturn, 1) := by decide +kernel
theorem dX8_parseOperand_54 : decode cX8_parseOperand 54 = .ok (.aload_n 0, 1) := by decide +kernel
theorem dX8_parseOperand_55 : decode cX8_parseOperand 55 = .ok (.invokevirtual 78, 3) := by decide +kernel
theorem dX8_parseOperand_58 : decode cX8_parseOperand 58 = .ok (.istore 4, 2) := by decide +kernel
theorem dX8_parseOperand_60 : decode cX8_parseOperand 60 = .ok (.iload 4, 2) := by decide +kernel
theorem dX8_parseOperand_62 : decode cX8_parseOperand 62 = .ok (.iload_n 1, 1) := by decide +kernel
theorem dX8_parseOperand_63 : decode cX8_parseOperand 63 = .ok (.invokestatic 81, 3) := by decide +kernel
theorem dX8_parseOperand_66 : decode cX8_parseOperand 66 = .ok (.if_icmp .lt 12, 3) := by decide +kernel
theorem dX8_parseOperand_69 : decode cX8_parseOperand 69 = .ok (.iload 4, 2) := by decide +kernel
theorem dX8_parseOperand_71 : decode cX8_parseOperand 71 = .ok (.iload_n 1, 1) := by decide +kernel
theorem dX8_parseOperand_72 : decode cX8_parseOperand 72 = .ok (.invokestatic 85, 3) := by decide +kernel
theorem dX8_parseOperand_75 : decode cX8_parseOperand 75 = .ok (.if_icmp .le 9, 3) := by decide +kernel
theorem dX8_parseOperand_78 : decode cX8_parseOperand 78 = .ok (.aload_n 0, 1) := by decide +kernel
theorem dX8_parseOperand_79 : decode cX8_parseOperand 79 = .ok (.iconst 2, 1) := by decide +kernel
theorem dX8_parseOperand_80 : decode cX8_parseOperand 80 = .ok (.invokevirtual 55, 3) := by decide +kernel
theorem dX8_parseOperand_83 : decode cX8_parseOperand 83 = .ok (.ireturn, 1) := by decide +kernel
theorem dX8_parseOperand_84 : decode cX8_parseOperand 84 = .ok (.aload_n 0, 1) := by decide +kernel
theorem dX8_parseOperand_85 : decode cX8_parseOperand 85 = .ok (.iload_n 2, 1) := by decide +kernel
theorem dX8_parseOperand_86 : decode cX8_parseOperand 86 = .ok (.iload_n 3, 1) := by decide +kernel
theorem dX8_parseOperand_87 : decode cX8_parseOperand 87 = .ok (.ifCond .eq 9, 3) := by decide +kernel
theorem dX8_parseOperand_90 : decode cX8_parseOperand 90 = .ok (.iload 4, 2) := by decide +kernel
theorem dX8_parseOperand_92 : decode cX8_parseOperand 92 = .ok (.ineg, 1) := by decide +kernel
theorem dX8_parseOperand_93 : decode cX8_parseOperand 93 = .ok (.goto 5, 3) := by decide +kernel
theorem dX8_parseOperand_96 : decode cX8_parseOperand 96 = .ok (.iload 4, 2) := by decide +kernel
theorem dX8_parseOperand_98 : decode cX8_parseOperand 98 = .ok (.invokevirtual 88, 3) := by decide +kernel
theorem dX8_parseOperand_101 : decode cX8_parseOperand 101 = .ok (.aload_n 0, 1) := by decide +kernel
theorem dX8_parseOperand_102 : decode cX8_parseOperand 102 = .ok (.invokevirtual 41, 3) := by decide +kernel
theorem dX8_parseOperand_105 : decode cX8_parseOperand 105 = .ok (.iconst 1, 1) := by decide +kernel
theorem dX8_parseOperand_106 : decode cX8_parseOperand 106 = .ok (.ireturn, 1) := by decide +kernel
theorem dX8_parseEnd_0 : decode cX8_parseEnd 0 = .ok (.aload_n 0, 1) := by decide +kernel
theorem dX8_parseEnd_1 : decode cX8_parseEnd 1 = .ok (.ldc 92, 2) := by decide +kernel
theorem dX8_parseEnd_3 : decode cX8_parseEnd 3 = .ok (.invokevirtual 94, 3) := by decide +kernel
theorem dX8_parseEnd_6 : decode cX8_parseEnd 6 = .ok (.istore_n 2, 1) := by decide +kernel
theorem dX8_parseEnd_7 : decode cX8_parseEnd 7 = .ok (.aload_n 0, 1) := by decide +kernel
theorem dX8_parseEnd_8 : decode cX8_parseEnd 8 = .ok (.iload_n 1, 1) := by decide +kernel
theorem dX8_parseEnd_9 : decode cX8_parseEnd 9 = .ok (.iload_n 2, 1) := by decide +kernel
theorem dX8_parseEnd_10 : decode cX8_parseEnd 10 = .ok (.ifCond .eq 7, 3) := by decide +kernel
theorem dX8_parseEnd_13 : decode cX8_parseEnd 13 = .ok (.iconst 1, 1) := by decide +kernel
theorem dX8_parseEnd_14 : decode cX8_parseEnd 14 = .ok (.goto 4, 3) := by decide +kernel
theorem dX8_parseEnd_17 : decode cX8_parseEnd 17 = .ok (.iconst 0, 1) := by decide +kernel
theorem dX8_parseEnd_18 : decode cX8_parseEnd 18 = .ok (.invokevirtual 88, 3) := by decide +kernel
theorem dX8_parseEnd_21 : decode cX8_parseEnd 21 = .ok (.iload_n 2, 1) := by decide +kernel
theorem dX8_parseEnd_22 : decode cX8_parseEnd 22 = .ok (.ifCond .eq 7, 3) := by decide +kernel
theorem dX8_parseEnd_25 : decode cX8_parseEnd 25 = .ok (.aload_n 0, 1) := by decide +kernel
theorem dX8_parseEnd_26 : decode cX8_parseEnd 26 = .ok (.invokevirtual 41, 3) := by decide +kernel
theorem dX8_parseEnd_29 : decode cX8_parseEnd 29 = .ok (.iconst 1, 1) := by decide +kernel
theorem dX8_parseEnd_30 : decode cX8_parseEnd 30 = .ok (.ireturn, 1) := by decide +kernel
theorem dX8_keep_0 : decode cX8_keep 0 = .ok (.iload_n 1, 1) := by decide +kernel
theorem dX8_keep_1 : decode cX8_keep 1 = .ok (.ifCond .lt 19, 3) := by decide +kernel
theorem dX8_keep_4 : decode cX8_keep 4 = .ok (.iload_n 1, 1) := by decide +kernel
theorem dX8_keep_5 : decode cX8_keep 5 = .ok (.aload_n 0, 1) := by decide +kernel
theorem dX8_keep_6 : decode cX8_keep 6 = .ok (.getfield 21, 3) := by decide +kernel
theorem dX8_keep_9 : decode cX8_keep 9 = .ok (.arraylength, 1) := by decide +kernel
theorem dX8_keep_10 : decode cX8_keep 10 = .ok (.if_icmp .ge 10, 3) := by decide +kernel
theorem dX8_keep_13 : decode cX8_keep 13 = .ok (.aload_n 0, 1) := by decide +kernel
theorem dX8_keep_14 : decode cX8_keep 14 = .ok (.getfield 21, 3) := by decide +kernel
theorem dX8_keep_17 : decode cX8_keep 17 = .ok (.iload_n 1, 1) := by decide +kernel
theorem dX8_keep_18 : decode cX8_keep 18 = .ok (.iload_n 2, 1) := by decide +kernel
theorem dX8_keep_19 : decode cX8_keep 19 = .ok (.iastore, 1) := by decide +kernel
theorem dX8_keep_20 : decode cX8_keep 20 = .ok (.return_, 1) := by decide +kernel
theorem dX8_fail_0 : decode cX8_fail 0 = .ok (.aload_n 0, 1) := by decide +kernel
theorem dX8_fail_1 : decode cX8_fail 1 = .ok (.iload_n 1, 1) := by decide +kernel
theorem dX8_fail_2 : decode cX8_fail 2 = .ok (.putfield 35, 3) := by decide +kernel
theorem dX8_fail_5 : decode cX8_fail 5 = .ok (.aload_n 0, 1) := by decide +kernel
theorem dX8_fail_6 : decode cX8_fail 6 = .ok (.aload_n 0, 1) := by decide +kernel
theorem dX8_fail_7 : decode cX8_fail 7 = .ok (.getfield 98, 3) := by decide +kernel
theorem dX8_fail_10 : decode cX8_fail 10 = .ok (.putfield 25, 3) := by decide +kernel
theorem dX8_fail_13 : decode cX8_fail 13 = .ok (.iconst 0, 1) := by decide +kernel
theorem dX8_fail_14 : decode cX8_fail 14 = .ok (.ireturn, 1) := by decide +kernel
theorem dX8_leastOf_0 : decode cX8_leastOf 0 = .ok (.iload_n 0, 1) := by decide +kernel
theorem dX8_leastOf_1 : decode cX8_leastOf 1 = .ok (.bipush 115, 2) := by decide +kernel
theorem dX8_leastOf_3 : decode cX8_leastOf 3 = .ok (.if_icmp .eq 21, 3) := by decide +kernel
theorem dX8_leastOf_6 : decode cX8_leastOf 6 = .ok (.iload_n 0, 1) := by decide +kernel
theorem dX8_leastOf_7 : decode cX8_leastOf 7 = .ok (.bipush 105, 2) := by decide +kernel
theorem dX8_leastOf_9 : decode cX8_leastOf 9 = .ok (.if_icmp .eq 15, 3) := by decide +kernel
theorem dX8_leastOf_12 : decode cX8_leastOf 12 = .ok (.iload_n 0, 1) := by decide +kernel
theorem dX8_leastOf_13 : decode cX8_leastOf 13 = .ok (.bipush 116, 2) := by decide +kernel
theorem dX8_leastOf_15 : decode cX8_leastOf 15 = .ok (.if_icmp .eq 9, 3) := by decide +kernel
theorem dX8_leastOf_18 : decode cX8_leastOf 18 = .ok (.iload_n 0, 1) := by decide +kernel
theorem dX8_leastOf_19 : decode cX8_leastOf 19 = .ok (.bipush 110, 2) := by decide +kernel
theorem dX8_leastOf_21 : decode cX8_leastOf 21 = .ok (.if_icmp .ne 7, 3) := by decide +kernel
theorem dX8_leastOf_24 : decode cX8_leastOf 24 = .ok (.iconst 1, 1) := by decide +kernel
theorem dX8_leastOf_25 : decode cX8_leastOf 25 = .ok (.goto 4, 3) := by decide +kernel
theorem dX8_leastOf_28 : decode cX8_leastOf 28 = .ok (.iconst 0, 1) := by decide +kernel
theorem dX8_leastOf_29 : decode cX8_leastOf 29 = .ok (.ireturn, 1) := by decide +kernel
theorem dX8_mostOf_0 : decode cX8_mostOf 0 = .ok (.iload_n 0, 1) := by decide +kernel
theorem dX8_mostOf_1 : decode cX8_mostOf 1 = .ok (.lookupswitch 64 #[(98, 51), (107, 55), (114, 53), (115, 58), (116, 61)], 51) := by decide +kernel
theorem dX8_mostOf_52 : decode cX8_mostOf 52 = .ok (.iconst 3, 1) := by decide +kernel
theorem dX8_mostOf_53 : decode cX8_mostOf 53 = .ok (.ireturn, 1) := by decide +kernel
theorem dX8_mostOf_54 : decode cX8_mostOf 54 = .ok (.iconst 5, 1) := by decide +kernel
theorem dX8_mostOf_55 : decode cX8_mostOf 55 = .ok (.ireturn, 1) := by decide +kernel
theorem dX8_mostOf_56 : decode cX8_mostOf 56 = .ok (.bipush 9, 2) := by decide +kernel
theorem dX8_mostOf_58 : decode cX8_mostOf 58 = .ok (.ireturn, 1) := by decide +kernel
theorem dX8_mostOf_59 : decode cX8_mostOf 59 = .ok (.bipush 9, 2) := by decide +kernel
theorem dX8_mostOf_61 : decode cX8_mostOf 61 = .ok (.ireturn, 1) := by decide +kernel
theorem dX8_mostOf_62 : decode cX8_mostOf 62 = .ok (.bipush 60, 2) := by decide +kernel
theorem dX8_mostOf_64 : decode cX8_mostOf 64 = .ok (.ireturn, 1) := by decide +kernel
theorem dX8_mostOf_65 : decode cX8_mostOf 65 = .ok (.bipush 99, 2) := by decide +kernel
theorem dX8_mostOf_67 : decode cX8_mostOf 67 = .ok (.ireturn, 1) := by decide +kernel
theorem dX8_next_0 : decode cX8_next 0 = .ok (.aload_n 0, 1) := by decide +kernel
theorem dX8_next_1 : decode cX8_next 1 = .ok (.getfield 38, 3) := by decide +kernel
theorem dX8_next_4 : decode cX8_next 4 = .ok (.istore_n 1, 1) := by decide +kernel
theorem dX8_next_5 : decode cX8_next 5 = .ok (.iload_n 1, 1) := by decide +kernel
theorem dX8_next_6 : decode cX8_next 6 = .ok (.aload_n 0, 1) := by decide +kernel
theorem dX8_next_7 : decode cX8_next 7 = .ok (.getfield 29, 3) := by decide +kernel
theorem dX8_next_10 : decode cX8_next 10 = .ok (.if_icmp .ge 20, 3) := by decide +kernel
theorem dX8_next_13 : decode cX8_next 13 = .ok (.aload_n 0, 1) := by decide +kernel
theorem dX8_next_14 : decode cX8_next 14 = .ok (.iload_n 1, 1) := by decide +kernel
theorem dX8_next_15 : decode cX8_next 15 = .ok (.invokevirtual 101, 3) := by decide +kernel
theorem dX8_next_18 : decode cX8_next 18 = .ok (.invokestatic 105, 3) := by decide +kernel
theorem dX8_next_21 : decode cX8_next 21 = .ok (.ifCond .eq 9, 3) := by decide +kernel
theorem dX8_next_24 : decode cX8_next 24 = .ok (.iinc 1 1, 3) := by decide +kernel
theorem dX8_next_27 : decode cX8_next 27 = .ok (.goto (-22), 3) := by decide +kernel
theorem dX8_next_30 : decode cX8_next 30 = .ok (.aload_n 0, 1) := by decide +kernel
theorem dX8_next_31 : decode cX8_next 31 = .ok (.iload_n 1, 1) := by decide +kernel
theorem dX8_next_32 : decode cX8_next 32 = .ok (.putfield 98, 3) := by decide +kernel
theorem dX8_next_35 : decode cX8_next 35 = .ok (.aload_n 0, 1) := by decide +kernel
theorem dX8_next_36 : decode cX8_next 36 = .ok (.aload_n 0, 1) := by decide +kernel
theorem dX8_next_37 : decode cX8_next 37 = .ok (.iload_n 1, 1) := by decide +kernel
theorem dX8_next_38 : decode cX8_next 38 = .ok (.invokevirtual 101, 3) := by decide +kernel
theorem dX8_next_41 : decode cX8_next 41 = .ok (.invokestatic 108, 3) := by decide +kernel
theorem dX8_next_44 : decode cX8_next 44 = .ok (.putfield 44, 3) := by decide +kernel
theorem dX8_next_47 : decode cX8_next 47 = .ok (.aload_n 0, 1) := by decide +kernel
theorem dX8_next_48 : decode cX8_next 48 = .ok (.iload_n 1, 1) := by decide +kernel
theorem dX8_next_49 : decode cX8_next 49 = .ok (.aload_n 0, 1) := by decide +kernel
theorem dX8_next_50 : decode cX8_next 50 = .ok (.getfield 29, 3) := by decide +kernel
theorem dX8_next_53 : decode cX8_next 53 = .ok (.if_icmp .ge 9, 3) := by decide +kernel
theorem dX8_next_56 : decode cX8_next 56 = .ok (.iload_n 1, 1) := by decide +kernel
theorem dX8_next_57 : decode cX8_next 57 = .ok (.iconst 1, 1) := by decide +kernel
theorem dX8_next_58 : decode cX8_next 58 = .ok (.iadd, 1) := by decide +kernel
theorem dX8_next_59 : decode cX8_next 59 = .ok (.goto 4, 3) := by decide +kernel
theorem dX8_next_62 : decode cX8_next 62 = .ok (.iload_n 1, 1) := by decide +kernel
theorem dX8_next_63 : decode cX8_next 63 = .ok (.putfield 38, 3) := by decide +kernel
theorem dX8_next_66 : decode cX8_next 66 = .ok (.aload_n 0, 1) := by decide +kernel
theorem dX8_next_67 : decode cX8_next 67 = .ok (.getfield 44, 3) := by decide +kernel
theorem dX8_next_70 : decode cX8_next 70 = .ok (.iconst 1, 1) := by decide +kernel
theorem dX8_next_71 : decode cX8_next 71 = .ok (.if_icmp .eq 11, 3) := by decide +kernel
theorem dX8_next_74 : decode cX8_next 74 = .ok (.aload_n 0, 1) := by decide +kernel
theorem dX8_next_75 : decode cX8_next 75 = .ok (.getfield 44, 3) := by decide +kernel
theorem dX8_next_78 : decode cX8_next 78 = .ok (.iconst 2, 1) := by decide +kernel
theorem dX8_next_79 : decode cX8_next 79 = .ok (.if_icmp .ne 7, 3) := by decide +kernel
theorem dX8_next_82 : decode cX8_next 82 = .ok (.iconst 1, 1) := by decide +kernel
theorem dX8_next_83 : decode cX8_next 83 = .ok (.goto 4, 3) := by decide +kernel
theorem dX8_next_86 : decode cX8_next 86 = .ok (.iconst 0, 1) := by decide +kernel
theorem dX8_next_87 : decode cX8_next 87 = .ok (.istore_n 2, 1) := by decide +kernel
theorem dX8_next_88 : decode cX8_next 88 = .ok (.iload_n 2, 1) := by decide +kernel
theorem dX8_next_89 : decode cX8_next 89 = .ok (.ifCond .eq 45, 3) := by decide +kernel
theorem dX8_next_92 : decode cX8_next 92 = .ok (.aload_n 0, 1) := by decide +kernel
theorem dX8_next_93 : decode cX8_next 93 = .ok (.getfield 38, 3) := by decide +kernel
theorem dX8_next_96 : decode cX8_next 96 = .ok (.aload_n 0, 1) := by decide +kernel
theorem dX8_next_97 : decode cX8_next 97 = .ok (.getfield 29, 3) := by decide +kernel
theorem dX8_next_100 : decode cX8_next 100 = .ok (.if_icmp .ge 34, 3) := by decide +kernel
theorem dX8_next_103 : decode cX8_next 103 = .ok (.aload_n 0, 1) := by decide +kernel
theorem dX8_next_104 : decode cX8_next 104 = .ok (.aload_n 0, 1) := by decide +kernel
theorem dX8_next_105 : decode cX8_next 105 = .ok (.getfield 38, 3) := by decide +kernel
theorem dX8_next_108 : decode cX8_next 108 = .ok (.invokevirtual 101, 3) := by decide +kernel
theorem dX8_next_111 : decode cX8_next 111 = .ok (.invokestatic 108, 3) := by decide +kernel
theorem dX8_next_114 : decode cX8_next 114 = .ok (.aload_n 0, 1) := by decide +kernel
theorem dX8_next_115 : decode cX8_next 115 = .ok (.getfield 44, 3) := by decide +kernel
theorem dX8_next_118 : decode cX8_next 118 = .ok (.if_icmp .ne 16, 3) := by decide +kernel
theorem dX8_next_121 : decode cX8_next 121 = .ok (.aload_n 0, 1) := by decide +kernel
theorem dX8_next_122 : decode cX8_next 122 = .ok (.dup, 1) := by decide +kernel
theorem dX8_next_123 : decode cX8_next 123 = .ok (.getfield 38, 3) := by decide +kernel
theorem dX8_next_126 : decode cX8_next 126 = .ok (.iconst 1, 1) := by decide +kernel
theorem dX8_next_127 : decode cX8_next 127 = .ok (.iadd, 1) := by decide +kernel
theorem dX8_next_128 : decode cX8_next 128 = .ok (.putfield 38, 3) := by decide +kernel
theorem dX8_next_131 : decode cX8_next 131 = .ok (.goto (-43), 3) := by decide +kernel
theorem dX8_next_134 : decode cX8_next 134 = .ok (.return_, 1) := by decide +kernel
theorem dX8_byteAt_0 : decode cX8_byteAt 0 = .ok (.iload_n 1, 1) := by decide +kernel
theorem dX8_byteAt_1 : decode cX8_byteAt 1 = .ok (.ifCond .lt 33, 3) := by decide +kernel
theorem dX8_byteAt_4 : decode cX8_byteAt 4 = .ok (.iload_n 1, 1) := by decide +kernel
theorem dX8_byteAt_5 : decode cX8_byteAt 5 = .ok (.aload_n 0, 1) := by decide +kernel
theorem dX8_byteAt_6 : decode cX8_byteAt 6 = .ok (.getfield 29, 3) := by decide +kernel
theorem dX8_byteAt_9 : decode cX8_byteAt 9 = .ok (.if_icmp .ge 25, 3) := by decide +kernel
theorem dX8_byteAt_12 : decode cX8_byteAt 12 = .ok (.iload_n 1, 1) := by decide +kernel
theorem dX8_byteAt_13 : decode cX8_byteAt 13 = .ok (.aload_n 0, 1) := by decide +kernel
theorem dX8_byteAt_14 : decode cX8_byteAt 14 = .ok (.getfield 11, 3) := by decide +kernel
theorem dX8_byteAt_17 : decode cX8_byteAt 17 = .ok (.arraylength, 1) := by decide +kernel
theorem dX8_byteAt_18 : decode cX8_byteAt 18 = .ok (.if_icmp .ge 16, 3) := by decide +kernel
theorem dX8_byteAt_21 : decode cX8_byteAt 21 = .ok (.aload_n 0, 1) := by decide +kernel
theorem dX8_byteAt_22 : decode cX8_byteAt 22 = .ok (.getfield 11, 3) := by decide +kernel
theorem dX8_byteAt_25 : decode cX8_byteAt 25 = .ok (.iload_n 1, 1) := by decide +kernel
theorem dX8_byteAt_26 : decode cX8_byteAt 26 = .ok (.baload, 1) := by decide +kernel
theorem dX8_byteAt_27 : decode cX8_byteAt 27 = .ok (.sipush 255, 3) := by decide +kernel
theorem dX8_byteAt_30 : decode cX8_byteAt 30 = .ok (.iand, 1) := by decide +kernel
theorem dX8_byteAt_31 : decode cX8_byteAt 31 = .ok (.goto 4, 3) := by decide +kernel
theorem dX8_byteAt_34 : decode cX8_byteAt 34 = .ok (.iconst (-1), 1) := by decide +kernel
theorem dX8_byteAt_35 : decode cX8_byteAt 35 = .ok (.ireturn, 1) := by decide +kernel
theorem dX8_isBlank_0 : decode cX8_isBlank 0 = .ok (.iload_n 0, 1) := by decide +kernel
theorem dX8_isBlank_1 : decode cX8_isBlank 1 = .ok (.bipush 32, 2) := by decide +kernel
theorem dX8_isBlank_3 : decode cX8_isBlank 3 = .ok (.if_icmp .eq 9, 3) := by decide +kernel
theorem dX8_isBlank_6 : decode cX8_isBlank 6 = .ok (.iload_n 0, 1) := by decide +kernel
theorem dX8_isBlank_7 : decode cX8_isBlank 7 = .ok (.bipush 10, 2) := by decide +kernel
theorem dX8_isBlank_9 : decode cX8_isBlank 9 = .ok (.if_icmp .ne 7, 3) := by decide +kernel
theorem dX8_isBlank_12 : decode cX8_isBlank 12 = .ok (.iconst 1, 1) := by decide +kernel
theorem dX8_isBlank_13 : decode cX8_isBlank 13 = .ok (.goto 4, 3) := by decide +kernel
theorem dX8_isBlank_16 : decode cX8_isBlank 16 = .ok (.iconst 0, 1) := by decide +kernel
theorem dX8_isBlank_17 : decode cX8_isBlank 17 = .ok (.ireturn, 1) := by decide +kernel
theorem dX8_kindOf_0 : decode cX8_kindOf 0 = .ok (.iload_n 0, 1) := by decide +kernel
theorem dX8_kindOf_1 : decode cX8_kindOf 1 = .ok (.iconst (-1), 1) := by decide +kernel
theorem dX8_kindOf_2 : decode cX8_kindOf 2 = .ok (.if_icmp .ne 5, 3) := by decide +kernel
theorem dX8_kindOf_5 : decode cX8_kindOf 5 = .ok (.iconst 0, 1) := by decide +kernel
theorem dX8_kindOf_6 : decode cX8_kindOf 6 = .ok (.ireturn, 1) := by decide +kernel
theorem dX8_kindOf_7 : decode cX8_kindOf 7 = .ok (.iload_n 0, 1) := by decide +kernel
theorem dX8_kindOf_8 : decode cX8_kindOf 8 = .ok (.bipush 97, 2) := by decide +kernel
theorem dX8_kindOf_10 : decode cX8_kindOf 10 = .ok (.if_icmp .lt 11, 3) := by decide +kernel
theorem dX8_kindOf_13 : decode cX8_kindOf 13 = .ok (.iload_n 0, 1) := by decide +kernel
theorem dX8_kindOf_14 : decode cX8_kindOf 14 = .ok (.bipush 122, 2) := by decide +kernel
theorem dX8_kindOf_16 : decode cX8_kindOf 16 = .ok (.if_icmp .gt 5, 3) := by decide +kernel
theorem dX8_kindOf_19 : decode cX8_kindOf 19 = .ok (.iconst 1, 1) := by decide +kernel
theorem dX8_kindOf_20 : decode cX8_kindOf 20 = .ok (.ireturn, 1) := by decide +kernel
theorem dX8_kindOf_21 : decode cX8_kindOf 21 = .ok (.iload_n 0, 1) := by decide +kernel
theorem dX8_kindOf_22 : decode cX8_kindOf 22 = .ok (.bipush 48, 2) := by decide +kernel
theorem dX8_kindOf_24 : decode cX8_kindOf 24 = .ok (.if_icmp .lt 11, 3) := by decide +kernel
theorem dX8_kindOf_27 : decode cX8_kindOf 27 = .ok (.iload_n 0, 1) := by decide +kernel
theorem dX8_kindOf_28 : decode cX8_kindOf 28 = .ok (.bipush 57, 2) := by decide +kernel
theorem dX8_kindOf_30 : decode cX8_kindOf 30 = .ok (.if_icmp .gt 5, 3) := by decide +kernel
theorem dX8_kindOf_33 : decode cX8_kindOf 33 = .ok (.iconst 2, 1) := by decide +kernel
theorem dX8_kindOf_34 : decode cX8_kindOf 34 = .ok (.ireturn, 1) := by decide +kernel
theorem dX8_kindOf_35 : decode cX8_kindOf 35 = .ok (.iload_n 0, 1) := by decide +kernel
theorem dX8_kindOf_36 : decode cX8_kindOf 36 = .ok (.bipush 45, 2) := by decide +kernel
theorem dX8_kindOf_38 : decode cX8_kindOf 38 = .ok (.if_icmp .ne 5, 3) := by decide +kernel
theorem dX8_kindOf_41 : decode cX8_kindOf 41 = .ok (.iconst 3, 1) := by decide +kernel
theorem dX8_kindOf_42 : decode cX8_kindOf 42 = .ok (.ireturn, 1) := by decide +kernel
theorem dX8_kindOf_43 : decode cX8_kindOf 43 = .ok (.iload_n 0, 1) := by decide +kernel
theorem dX8_kindOf_44 : decode cX8_kindOf 44 = .ok (.bipush 59, 2) := by decide +kernel
theorem dX8_kindOf_46 : decode cX8_kindOf 46 = .ok (.if_icmp .ne 7, 3) := by decide +kernel
theorem dX8_kindOf_49 : decode cX8_kindOf 49 = .ok (.iconst 4, 1) := by decide +kernel
theorem dX8_kindOf_50 : decode cX8_kindOf 50 = .ok (.goto 4, 3) := by decide +kernel
theorem dX8_kindOf_53 : decode cX8_kindOf 53 = .ok (.iconst 5, 1) := by decide +kernel
theorem dX8_kindOf_54 : decode cX8_kindOf 54 = .ok (.ireturn, 1) := by decide +kernel
theorem dX8_verbHere_0 : decode cX8_verbHere 0 = .ok (.getstatic 111, 3) := by decide +kernel
theorem dX8_verbHere_3 : decode cX8_verbHere 3 = .ok (.astore_n 1, 1) := by decide +kernel
theorem dX8_verbHere_4 : decode cX8_verbHere 4 = .ok (.aload_n 1, 1) := by decide +kernel
theorem dX8_verbHere_5 : decode cX8_verbHere 5 = .ok (.arraylength, 1) := by decide +kernel
theorem dX8_verbHere_6 : decode cX8_verbHere 6 = .ok (.istore_n 2, 1) := by decide +kernel
theorem dX8_verbHere_7 : decode cX8_verbHere 7 = .ok (.iconst 0, 1) := by decide +kernel
theorem dX8_verbHere_8 : decode cX8_verbHere 8 = .ok (.istore_n 3, 1) := by decide +kernel
theorem dX8_verbHere_9 : decode cX8_verbHere 9 = .ok (.iload_n 3, 1) := by decide +kernel
theorem dX8_verbHere_10 : decode cX8_verbHere 10 = .ok (.iload_n 2, 1) := by decide +kernel
theorem dX8_verbHere_11 : decode cX8_verbHere 11 = .ok (.if_icmp .ge 29, 3) := by decide +kernel
theorem dX8_verbHere_14 : decode cX8_verbHere 14 = .ok (.aload_n 1, 1) := by decide +kernel
theorem dX8_verbHere_15 : decode cX8_verbHere 15 = .ok (.iload_n 3, 1) := by decide +kernel
theorem dX8_verbHere_16 : decode cX8_verbHere 16 = .ok (.aaload, 1) := by decide +kernel
theorem dX8_verbHere_17 : decode cX8_verbHere 17 = .ok (.astore 4, 2) := by decide +kernel
theorem dX8_verbHere_19 : decode cX8_verbHere 19 = .ok (.aload_n 0, 1) := by decide +kernel
theorem dX8_verbHere_20 : decode cX8_verbHere 20 = .ok (.aload 4, 2) := by decide +kernel
theorem dX8_verbHere_22 : decode cX8_verbHere 22 = .ok (.getfield 114, 3) := by decide +kernel
theorem dX8_verbHere_25 : decode cX8_verbHere 25 = .ok (.invokevirtual 94, 3) := by decide +kernel
theorem dX8_verbHere_28 : decode cX8_verbHere 28 = .ok (.ifCond .eq 6, 3) := by decide +kernel
theorem dX8_verbHere_31 : decode cX8_verbHere 31 = .ok (.aload 4, 2) := by decide +kernel
theorem dX8_verbHere_33 : decode cX8_verbHere 33 = .ok (.areturn, 1) := by decide +kernel
theorem dX8_verbHere_34 : decode cX8_verbHere 34 = .ok (.iinc 3 1, 3) := by decide +kernel
theorem dX8_verbHere_37 : decode cX8_verbHere 37 = .ok (.goto (-28), 3) := by decide +kernel
theorem dX8_verbHere_40 : decode cX8_verbHere 40 = .ok (.aconst_null, 1) := by decide +kernel
theorem dX8_verbHere_41 : decode cX8_verbHere 41 = .ok (.areturn, 1) := by decide +kernel
theorem dX8_isWord_0 : decode cX8_isWord 0 = .ok (.aload_n 0, 1) := by decide +kernel
theorem dX8_isWord_1 : decode cX8_isWord 1 = .ok (.getfield 44, 3) := by decide +kernel
theorem dX8_isWord_4 : decode cX8_isWord 4 = .ok (.iconst 1, 1) := by decide +kernel
theorem dX8_isWord_5 : decode cX8_isWord 5 = .ok (.if_icmp .ne 23, 3) := by decide +kernel
theorem dX8_isWord_8 : decode cX8_isWord 8 = .ok (.aload_n 0, 1) := by decide +kernel
theorem dX8_isWord_9 : decode cX8_isWord 9 = .ok (.getfield 38, 3) := by decide +kernel
theorem dX8_isWord_12 : decode cX8_isWord 12 = .ok (.aload_n 0, 1) := by decide +kernel
theorem dX8_isWord_13 : decode cX8_isWord 13 = .ok (.getfield 98, 3) := by decide +kernel
theorem dX8_isWord_16 : decode cX8_isWord 16 = .ok (.isub, 1) := by decide +kernel
theorem dX8_isWord_17 : decode cX8_isWord 17 = .ok (.aload_n 1, 1) := by decide +kernel
theorem dX8_isWord_18 : decode cX8_isWord 18 = .ok (.invokevirtual 62, 3) := by decide +kernel
theorem dX8_isWord_21 : decode cX8_isWord 21 = .ok (.if_icmp .ne 7, 3) := by decide +kernel
theorem dX8_isWord_24 : decode cX8_isWord 24 = .ok (.iconst 1, 1) := by decide +kernel
theorem dX8_isWord_25 : decode cX8_isWord 25 = .ok (.goto 4, 3) := by decide +kernel
theorem dX8_isWord_28 : decode cX8_isWord 28 = .ok (.iconst 0, 1) := by decide +kernel
theorem dX8_isWord_29 : decode cX8_isWord 29 = .ok (.istore_n 2, 1) := by decide +kernel
theorem dX8_isWord_30 : decode cX8_isWord 30 = .ok (.iconst 0, 1) := by decide +kernel
theorem dX8_isWord_31 : decode cX8_isWord 31 = .ok (.istore_n 3, 1) := by decide +kernel
theorem dX8_isWord_32 : decode cX8_isWord 32 = .ok (.iload_n 2, 1) := by decide +kernel
theorem dX8_isWord_33 : decode cX8_isWord 33 = .ok (.ifCond .eq 41, 3) := by decide +kernel
theorem dX8_isWord_36 : decode cX8_isWord 36 = .ok (.iload_n 3, 1) := by decide +kernel
theorem dX8_isWord_37 : decode cX8_isWord 37 = .ok (.aload_n 1, 1) := by decide +kernel
theorem dX8_isWord_38 : decode cX8_isWord 38 = .ok (.invokevirtual 62, 3) := by decide +kernel
theorem dX8_isWord_41 : decode cX8_isWord 41 = .ok (.if_icmp .ge 33, 3) := by decide +kernel
theorem dX8_isWord_44 : decode cX8_isWord 44 = .ok (.aload_n 0, 1) := by decide +kernel
theorem dX8_isWord_45 : decode cX8_isWord 45 = .ok (.aload_n 0, 1) := by decide +kernel
theorem dX8_isWord_46 : decode cX8_isWord 46 = .ok (.getfield 98, 3) := by decide +kernel
theorem dX8_isWord_49 : decode cX8_isWord 49 = .ok (.iload_n 3, 1) := by decide +kernel
theorem dX8_isWord_50 : decode cX8_isWord 50 = .ok (.iadd, 1) := by decide +kernel
theorem dX8_isWord_51 : decode cX8_isWord 51 = .ok (.invokevirtual 101, 3) := by decide +kernel
theorem dX8_isWord_54 : decode cX8_isWord 54 = .ok (.aload_n 1, 1) := by decide +kernel
theorem dX8_isWord_55 : decode cX8_isWord 55 = .ok (.iload_n 3, 1) := by decide +kernel
theorem dX8_isWord_56 : decode cX8_isWord 56 = .ok (.invokevirtual 67, 3) := by decide +kernel
theorem dX8_isWord_59 : decode cX8_isWord 59 = .ok (.if_icmp .ne 7, 3) := by decide +kernel
theorem dX8_isWord_62 : decode cX8_isWord 62 = .ok (.iconst 1, 1) := by decide +kernel
theorem dX8_isWord_63 : decode cX8_isWord 63 = .ok (.goto 4, 3) := by decide +kernel
theorem dX8_isWord_66 : decode cX8_isWord 66 = .ok (.iconst 0, 1) := by decide +kernel
theorem dX8_isWord_67 : decode cX8_isWord 67 = .ok (.istore_n 2, 1) := by decide +kernel
theorem dX8_isWord_68 : decode cX8_isWord 68 = .ok (.iinc 3 1, 3) := by decide +kernel
theorem dX8_isWord_71 : decode cX8_isWord 71 = .ok (.goto (-39), 3) := by decide +kernel
theorem dX8_isWord_74 : decode cX8_isWord 74 = .ok (.iload_n 2, 1) := by decide +kernel
theorem dX8_isWord_75 : decode cX8_isWord 75 = .ok (.ireturn, 1) := by decide +kernel
theorem dX8_numberHere_0 : decode cX8_numberHere 0 = .ok (.iconst 0, 1) := by decide +kernel
theorem dX8_numberHere_1 : decode cX8_numberHere 1 = .ok (.istore_n 1, 1) := by decide +kernel
theorem dX8_numberHere_2 : decode cX8_numberHere 2 = .ok (.aload_n 0, 1) := by decide +kernel
theorem dX8_numberHere_3 : decode cX8_numberHere 3 = .ok (.getfield 98, 3) := by decide +kernel
theorem dX8_numberHere_6 : decode cX8_numberHere 6 = .ok (.istore_n 2, 1) := by decide +kernel
theorem dX8_numberHere_7 : decode cX8_numberHere 7 = .ok (.iload_n 2, 1) := by decide +kernel
theorem dX8_numberHere_8 : decode cX8_numberHere 8 = .ok (.aload_n 0, 1) := by decide +kernel
theorem dX8_numberHere_9 : decode cX8_numberHere 9 = .ok (.getfield 38, 3) := by decide +kernel
theorem dX8_numberHere_12 : decode cX8_numberHere 12 = .ok (.if_icmp .ge 29, 3) := by decide +kernel
theorem dX8_numberHere_15 : decode cX8_numberHere 15 = .ok (.sipush 1000, 3) := by decide +kernel
theorem dX8_numberHere_18 : decode cX8_numberHere 18 = .ok (.iload_n 1, 1) := by decide +kernel
theorem dX8_numberHere_19 : decode cX8_numberHere 19 = .ok (.bipush 10, 2) := by decide +kernel
theorem dX8_numberHere_21 : decode cX8_numberHere 21 = .ok (.imul, 1) := by decide +kernel
theorem dX8_numberHere_22 : decode cX8_numberHere 22 = .ok (.aload_n 0, 1) := by decide +kernel
theorem dX8_numberHere_23 : decode cX8_numberHere 23 = .ok (.iload_n 2, 1) := by decide +kernel
theorem dX8_numberHere_24 : decode cX8_numberHere 24 = .ok (.invokevirtual 101, 3) := by decide +kernel
theorem dX8_numberHere_27 : decode cX8_numberHere 27 = .ok (.iadd, 1) := by decide +kernel
theorem dX8_numberHere_28 : decode cX8_numberHere 28 = .ok (.bipush 48, 2) := by decide +kernel
theorem dX8_numberHere_30 : decode cX8_numberHere 30 = .ok (.isub, 1) := by decide +kernel
theorem dX8_numberHere_31 : decode cX8_numberHere 31 = .ok (.invokestatic 117, 3) := by decide +kernel
theorem dX8_numberHere_34 : decode cX8_numberHere 34 = .ok (.istore_n 1, 1) := by decide +kernel
theorem dX8_numberHere_35 : decode cX8_numberHere 35 = .ok (.iinc 2 1, 3) := by decide +kernel
theorem dX8_numberHere_38 : decode cX8_numberHere 38 = .ok (.goto (-31), 3) := by decide +kernel
theorem dX8_numberHere_41 : decode cX8_numberHere 41 = .ok (.iload_n 1, 1) := by decide +kernel
theorem dX8_numberHere_42 : decode cX8_numberHere 42 = .ok (.ireturn, 1) := by decide +kernel
theorem dX9_init_0 : decode cX9_init 0 = .ok (.aload_n 0, 1) := by decide +kernel
theorem dX9_init_1 : decode cX9_init 1 = .ok (.invokespecial 3, 3) := by decide +kernel
theorem dX9_init_4 : decode cX9_init 4 = .ok (.aload_n 0, 1) := by decide +kernel
theorem dX9_init_5 : decode cX9_init 5 = .ok (.iconst 4, 1) := by decide +kernel
theorem dX9_init_6 : decode cX9_init 6 = .ok (.newarray .int, 2) := by decide +kernel
theorem dX9_init_8 : decode cX9_init 8 = .ok (.putfield 9, 3) := by decide +kernel
theorem dX9_init_11 : decode cX9_init 11 = .ok (.aload_n 0, 1) := by decide +kernel
theorem dX9_init_12 : decode cX9_init 12 = .ok (.iconst 4, 1) := by decide +kernel
theorem dX9_init_13 : decode cX9_init 13 = .ok (.anewarray 15, 3) := by decide +kernel
theorem dX9_init_16 : decode cX9_init 16 = .ok (.putfield 17, 3) := by decide +kernel
theorem dX9_init_19 : decode cX9_init 19 = .ok (.aload_n 0, 1) := by decide +kernel
theorem dX9_init_20 : decode cX9_init 20 = .ok (.bipush 6, 2) := by decide +kernel
theorem dX9_init_22 : decode cX9_init 22 = .ok (.anewarray 21, 3) := by decide +kernel
theorem dX9_init_25 : decode cX9_init 25 = .ok (.putfield 23, 3) := by decide +kernel
theorem dX9_init_28 : decode cX9_init 28 = .ok (.iconst 0, 1) := by decide +kernel
theorem dX9_init_29 : decode cX9_init 29 = .ok (.istore_n 1, 1) := by decide +kernel
theorem dX9_init_30 : decode cX9_init 30 = .ok (.iload_n 1, 1) := by decide +kernel
theorem dX9_init_31 : decode cX9_init 31 = .ok (.aload_n 0, 1) := by decide +kernel
theorem dX9_init_32 : decode cX9_init 32 = .ok (.getfield 17, 3) := by decide +kernel
theorem dX9_init_35 : decode cX9_init 35 = .ok (.arraylength, 1) := by decide +kernel
theorem dX9_init_36 : decode cX9_init 36 = .ok (.if_icmp .ge 23, 3) := by decide +kernel
theorem dX9_init_39 : decode cX9_init 39 = .ok (.aload_n 0, 1) := by decide +kernel
theorem dX9_init_40 : decode cX9_init 40 = .ok (.getfield 17, 3) := by decide +kernel
theorem dX9_init_43 : decode cX9_init 43 = .ok (.iload_n 1, 1) := by decide +kernel
theorem dX9_init_44 : decode cX9_init 44 = .ok (.new 15, 3) := by decide +kernel
theorem dX9_init_47 : decode cX9_init 47 = .ok (.dup, 1) := by decide +kernel
theorem dX9_init_48 : decode cX9_init 48 = .ok (.iload_n 1, 1) := by decide +kernel
theorem dX9_init_49 : decode cX9_init 49 = .ok (.invokespecial 27, 3) := by decide +kernel
theorem dX9_init_52 : decode cX9_init 52 = .ok (.aastore, 1) := by decide +kernel
theorem dX9_init_53 : decode cX9_init 53 = .ok (.iinc 1 1, 3) := by decide +kernel
theorem dX9_init_56 : decode cX9_init 56 = .ok (.goto (-26), 3) := by decide +kernel
theorem dX9_init_59 : decode cX9_init 59 = .ok (.iconst 0, 1) := by decide +kernel
theorem dX9_init_60 : decode cX9_init 60 = .ok (.istore_n 1, 1) := by decide +kernel
theorem dX9_init_61 : decode cX9_init 61 = .ok (.iload_n 1, 1) := by decide +kernel
theorem dX9_init_62 : decode cX9_init 62 = .ok (.aload_n 0, 1) := by decide +kernel
theorem dX9_init_63 : decode cX9_init 63 = .ok (.getfield 23, 3) := by decide +kernel
theorem dX9_init_66 : decode cX9_init 66 = .ok (.arraylength, 1) := by decide +kernel
theorem dX9_init_67 : decode cX9_init 67 = .ok (.if_icmp .ge 22, 3) := by decide +kernel
theorem dX9_init_70 : decode cX9_init 70 = .ok (.aload_n 0, 1) := by decide +kernel
theorem dX9_init_71 : decode cX9_init 71 = .ok (.getfield 23, 3) := by decide +kernel
theorem dX9_init_74 : decode cX9_init 74 = .ok (.iload_n 1, 1) := by decide +kernel
theorem dX9_init_75 : decode cX9_init 75 = .ok (.new 21, 3) := by decide +kernel
theorem dX9_init_78 : decode cX9_init 78 = .ok (.dup, 1) := by decide +kernel
theorem dX9_init_79 : decode cX9_init 79 = .ok (.invokespecial 30, 3) := by decide +kernel
theorem dX9_init_82 : decode cX9_init 82 = .ok (.aastore, 1) := by decide +kernel
theorem dX9_init_83 : decode cX9_init 83 = .ok (.iinc 1 1, 3) := by decide +kernel
theorem dX9_init_86 : decode cX9_init 86 = .ok (.goto (-25), 3) := by decide +kernel
theorem dX9_init_89 : decode cX9_init 89 = .ok (.return_, 1) := by decide +kernel
theorem dX9_begin_0 : decode cX9_begin 0 = .ok (.aload_n 0, 1) := by decide +kernel
theorem dX9_begin_1 : decode cX9_begin 1 = .ok (.getfield 17, 3) := by decide +kernel
theorem dX9_begin_4 : decode cX9_begin 4 = .ok (.iconst 0, 1) := by decide +kernel
theorem dX9_begin_5 : decode cX9_begin 5 = .ok (.aaload, 1) := by decide +kernel
theorem dX9_begin_6 : decode cX9_begin 6 = .ok (.iconst 1, 1) := by decide +kernel
theorem dX9_begin_7 : decode cX9_begin 7 = .ok (.putfield 31, 3) := by decide +kernel
theorem dX9_begin_10 : decode cX9_begin 10 = .ok (.return_, 1) := by decide +kernel
theorem dX9_copyFrom_0 : decode cX9_copyFrom 0 = .ok (.aload_n 0, 1) := by decide +kernel
theorem dX9_copyFrom_1 : decode cX9_copyFrom 1 = .ok (.aload_n 1, 1) := by decide +kernel
theorem dX9_copyFrom_2 : decode cX9_copyFrom 2 = .ok (.getfield 35, 3) := by decide +kernel
theorem dX9_copyFrom_5 : decode cX9_copyFrom 5 = .ok (.putfield 35, 3) := by decide +kernel
theorem dX9_copyFrom_8 : decode cX9_copyFrom 8 = .ok (.aload_n 0, 1) := by decide +kernel
theorem dX9_copyFrom_9 : decode cX9_copyFrom 9 = .ok (.aload_n 1, 1) := by decide +kernel
theorem dX9_copyFrom_10 : decode cX9_copyFrom 10 = .ok (.getfield 39, 3) := by decide +kernel
theorem dX9_copyFrom_13 : decode cX9_copyFrom 13 = .ok (.putfield 39, 3) := by decide +kernel
theorem dX9_copyFrom_16 : decode cX9_copyFrom 16 = .ok (.aload_n 1, 1) := by decide +kernel
theorem dX9_copyFrom_17 : decode cX9_copyFrom 17 = .ok (.getfield 9, 3) := by decide +kernel
theorem dX9_copyFrom_20 : decode cX9_copyFrom 20 = .ok (.iconst 0, 1) := by decide +kernel
theorem dX9_copyFrom_21 : decode cX9_copyFrom 21 = .ok (.aload_n 0, 1) := by decide +kernel
theorem dX9_copyFrom_22 : decode cX9_copyFrom 22 = .ok (.getfield 9, 3) := by decide +kernel
theorem dX9_copyFrom_25 : decode cX9_copyFrom 25 = .ok (.iconst 0, 1) := by decide +kernel
theorem dX9_copyFrom_26 : decode cX9_copyFrom 26 = .ok (.iconst 4, 1) := by decide +kernel
theorem dX9_copyFrom_27 : decode cX9_copyFrom 27 = .ok (.invokestatic 42, 3) := by decide +kernel
theorem dX9_copyFrom_30 : decode cX9_copyFrom 30 = .ok (.iconst 0, 1) := by decide +kernel
theorem dX9_copyFrom_31 : decode cX9_copyFrom 31 = .ok (.istore_n 2, 1) := by decide +kernel
theorem dX9_copyFrom_32 : decode cX9_copyFrom 32 = .ok (.iload_n 2, 1) := by decide +kernel
theorem dX9_copyFrom_33 : decode cX9_copyFrom 33 = .ok (.iconst 4, 1) := by decide +kernel
theorem dX9_copyFrom_34 : decode cX9_copyFrom 34 = .ok (.if_icmp .ge 24, 3) := by decide +kernel
theorem dX9_copyFrom_37 : decode cX9_copyFrom 37 = .ok (.aload_n 0, 1) := by decide +kernel
theorem dX9_copyFrom_38 : decode cX9_copyFrom 38 = .ok (.getfield 17, 3) := by decide +kernel
theorem dX9_copyFrom_41 : decode cX9_copyFrom 41 = .ok (.iload_n 2, 1) := by decide +kernel
theorem dX9_copyFrom_42 : decode cX9_copyFrom 42 = .ok (.aaload, 1) := by decide +kernel
theorem dX9_copyFrom_43 : decode cX9_copyFrom 43 = .ok (.aload_n 1, 1) := by decide +kernel
theorem dX9_copyFrom_44 : decode cX9_copyFrom 44 = .ok (.getfield 17, 3) := by decide +kernel
theorem dX9_copyFrom_47 : decode cX9_copyFrom 47 = .ok (.iload_n 2, 1) := by decide +kernel
theorem dX9_copyFrom_48 : decode cX9_copyFrom 48 = .ok (.aaload, 1) := by decide +kernel
theorem dX9_copyFrom_49 : decode cX9_copyFrom 49 = .ok (.invokevirtual 48, 3) := by decide +kernel
theorem dX9_copyFrom_52 : decode cX9_copyFrom 52 = .ok (.iinc 2 1, 3) := by decide +kernel
theorem dX9_copyFrom_55 : decode cX9_copyFrom 55 = .ok (.goto (-23), 3) := by decide +kernel
theorem dX9_copyFrom_58 : decode cX9_copyFrom 58 = .ok (.iconst 0, 1) := by decide +kernel
theorem dX9_copyFrom_59 : decode cX9_copyFrom 59 = .ok (.istore_n 2, 1) := by decide +kernel
theorem dX9_copyFrom_60 : decode cX9_copyFrom 60 = .ok (.iload_n 2, 1) := by decide +kernel
theorem dX9_copyFrom_61 : decode cX9_copyFrom 61 = .ok (.bipush 6, 2) := by decide +kernel
theorem dX9_copyFrom_63 : decode cX9_copyFrom 63 = .ok (.if_icmp .ge 24, 3) := by decide +kernel
theorem dX9_copyFrom_66 : decode cX9_copyFrom 66 = .ok (.aload_n 0, 1) := by decide +kernel
theorem dX9_copyFrom_67 : decode cX9_copyFrom 67 = .ok (.getfield 23, 3) := by decide +kernel
theorem dX9_copyFrom_70 : decode cX9_copyFrom 70 = .ok (.iload_n 2, 1) := by decide +kernel
theorem dX9_copyFrom_71 : decode cX9_copyFrom 71 = .ok (.aaload, 1) := by decide +kernel
theorem dX9_copyFrom_72 : decode cX9_copyFrom 72 = .ok (.aload_n 1, 1) := by decide +kernel
theorem dX9_copyFrom_73 : decode cX9_copyFrom 73 = .ok (.getfield 23, 3) := by decide +kernel
theorem dX9_copyFrom_76 : decode cX9_copyFrom 76 = .ok (.iload_n 2, 1) := by decide +kernel
theorem dX9_copyFrom_77 : decode cX9_copyFrom 77 = .ok (.aaload, 1) := by decide +kernel
theorem dX9_copyFrom_78 : decode cX9_copyFrom 78 = .ok (.invokevirtual 52, 3) := by decide +kernel
theorem dX9_copyFrom_81 : decode cX9_copyFrom 81 = .ok (.iinc 2 1, 3) := by decide +kernel
theorem dX9_copyFrom_84 : decode cX9_copyFrom 84 = .ok (.goto (-24), 3) := by decide +kernel
theorem dX9_copyFrom_87 : decode cX9_copyFrom 87 = .ok (.return_, 1) := by decide +kernel
theorem dX9_branchAt_0 : decode cX9_branchAt 0 = .ok (.iload_n 1, 1) := by decide +kernel
theorem dX9_branchAt_1 : decode cX9_branchAt 1 = .ok (.ifCond .lt 16, 3) := by decide +kernel
theorem dX9_branchAt_4 : decode cX9_branchAt 4 = .ok (.iload_n 1, 1) := by decide +kernel
theorem dX9_branchAt_5 : decode cX9_branchAt 5 = .ok (.aload_n 0, 1) := by decide +kernel
theorem dX9_branchAt_6 : decode cX9_branchAt 6 = .ok (.getfield 17, 3) := by decide +kernel
theorem dX9_branchAt_9 : decode cX9_branchAt 9 = .ok (.arraylength, 1) := by decide +kernel
theorem dX9_branchAt_10 : decode cX9_branchAt 10 = .ok (.if_icmp .ge 7, 3) := by decide +kernel
theorem dX9_branchAt_13 : decode cX9_branchAt 13 = .ok (.iconst 1, 1) := by decide +kernel
theorem dX9_branchAt_14 : decode cX9_branchAt 14 = .ok (.goto 4, 3) := by decide +kernel
theorem dX9_branchAt_17 : decode cX9_branchAt 17 = .ok (.iconst 0, 1) := by decide +kernel
theorem dX9_branchAt_18 : decode cX9_branchAt 18 = .ok (.istore_n 2, 1) := by decide +kernel
theorem dX9_branchAt_19 : decode cX9_branchAt 19 = .ok (.iload_n 2, 1) := by decide +kernel
theorem dX9_branchAt_20 : decode cX9_branchAt 20 = .ok (.ifCond .eq 24, 3) := by decide +kernel
theorem dX9_branchAt_23 : decode cX9_branchAt 23 = .ok (.aload_n 0, 1) := by decide +kernel
theorem dX9_branchAt_24 : decode cX9_branchAt 24 = .ok (.getfield 17, 3) := by decide +kernel
theorem dX9_branchAt_27 : decode cX9_branchAt 27 = .ok (.iload_n 1, 1) := by decide +kernel
theorem dX9_branchAt_28 : decode cX9_branchAt 28 = .ok (.aaload, 1) := by decide +kernel
theorem dX9_branchAt_29 : decode cX9_branchAt 29 = .ok (.getfield 31, 3) := by decide +kernel
theorem dX9_branchAt_32 : decode cX9_branchAt 32 = .ok (.ifCond .eq 12, 3) := by decide +kernel
theorem dX9_branchAt_35 : decode cX9_branchAt 35 = .ok (.aload_n 0, 1) := by decide +kernel
theorem dX9_branchAt_36 : decode cX9_branchAt 36 = .ok (.getfield 17, 3) := by decide +kernel
theorem dX9_branchAt_39 : decode cX9_branchAt 39 = .ok (.iload_n 1, 1) := by decide +kernel
theorem dX9_branchAt_40 : decode cX9_branchAt 40 = .ok (.aaload, 1) := by decide +kernel
theorem dX9_branchAt_41 : decode cX9_branchAt 41 = .ok (.goto 4, 3) := by decide +kernel
theorem dX9_branchAt_44 : decode cX9_branchAt 44 = .ok (.aconst_null, 1) := by decide +kernel
theorem dX9_branchAt_45 : decode cX9_branchAt 45 = .ok (.areturn, 1) := by decide +kernel
theorem dX9_readerAt_0 : decode cX9_readerAt 0 = .ok (.iload_n 1, 1) := by decide +kernel
theorem dX9_readerAt_1 : decode cX9_readerAt 1 = .ok (.ifCond .lt 16, 3) := by decide +kernel
theorem dX9_readerAt_4 : decode cX9_readerAt 4 = .ok (.iload_n 1, 1) := by decide +kernel
theorem dX9_readerAt_5 : decode cX9_readerAt 5 = .ok (.aload_n 0, 1) := by decide +kernel
theorem dX9_readerAt_6 : decode cX9_readerAt 6 = .ok (.getfield 23, 3) := by decide +kernel
theorem dX9_readerAt_9 : decode cX9_readerAt 9 = .ok (.arraylength, 1) := by decide +kernel
theorem dX9_readerAt_10 : decode cX9_readerAt 10 = .ok (.if_icmp .ge 7, 3) := by decide +kernel
theorem dX9_readerAt_13 : decode cX9_readerAt 13 = .ok (.iconst 1, 1) := by decide +kernel
theorem dX9_readerAt_14 : decode cX9_readerAt 14 = .ok (.goto 4, 3) := by decide +kernel
theorem dX9_readerAt_17 : decode cX9_readerAt 17 = .ok (.iconst 0, 1) := by decide +kernel
theorem dX9_readerAt_18 : decode cX9_readerAt 18 = .ok (.istore_n 2, 1) := by decide +kernel
theorem dX9_readerAt_19 : decode cX9_readerAt 19 = .ok (.iload_n 2, 1) := by decide +kernel
theorem dX9_readerAt_20 : decode cX9_readerAt 20 = .ok (.ifCond .eq 24, 3) := by decide +kernel
theorem dX9_readerAt_23 : decode cX9_readerAt 23 = .ok (.aload_n 0, 1) := by decide +kernel
theorem dX9_readerAt_24 : decode cX9_readerAt 24 = .ok (.getfield 23, 3) := by decide +kernel
theorem dX9_readerAt_27 : decode cX9_readerAt 27 = .ok (.iload_n 1, 1) := by decide +kernel
theorem dX9_readerAt_28 : decode cX9_readerAt 28 = .ok (.aaload, 1) := by decide +kernel
theorem dX9_readerAt_29 : decode cX9_readerAt 29 = .ok (.getfield 55, 3) := by decide +kernel
theorem dX9_readerAt_32 : decode cX9_readerAt 32 = .ok (.ifCond .eq 12, 3) := by decide +kernel
theorem dX9_readerAt_35 : decode cX9_readerAt 35 = .ok (.aload_n 0, 1) := by decide +kernel
theorem dX9_readerAt_36 : decode cX9_readerAt 36 = .ok (.getfield 23, 3) := by decide +kernel
theorem dX9_readerAt_39 : decode cX9_readerAt 39 = .ok (.iload_n 1, 1) := by decide +kernel
theorem dX9_readerAt_40 : decode cX9_readerAt 40 = .ok (.aaload, 1) := by decide +kernel
theorem dX9_readerAt_41 : decode cX9_readerAt 41 = .ok (.goto 4, 3) := by decide +kernel
theorem dX9_readerAt_44 : decode cX9_readerAt 44 = .ok (.aconst_null, 1) := by decide +kernel
theorem dX9_readerAt_45 : decode cX9_readerAt 45 = .ok (.areturn, 1) := by decide +kernel
theorem dX9_homeOf_0 : decode cX9_homeOf 0 = .ok (.aload_n 1, 1) := by decide +kernel
theorem dX9_homeOf_1 : decode cX9_homeOf 1 = .ok (.getfield 56, 3) := by decide +kernel
theorem dX9_homeOf_4 : decode cX9_homeOf 4 = .ok (.istore_n 2, 1) := by decide +kernel
theorem dX9_homeOf_5 : decode cX9_homeOf 5 = .ok (.aload_n 0, 1) := by decide +kernel
theorem dX9_homeOf_6 : decode cX9_homeOf 6 = .ok (.getfield 17, 3) := by decide +kernel
theorem dX9_homeOf_9 : decode cX9_homeOf 9 = .ok (.iload_n 2, 1) := by decide +kernel
theorem dX9_homeOf_10 : decode cX9_homeOf 10 = .ok (.ifCond .lt 16, 3) := by decide +kernel
theorem dX9_homeOf_13 : decode cX9_homeOf 13 = .ok (.iload_n 2, 1) := by decide +kernel
theorem dX9_homeOf_14 : decode cX9_homeOf 14 = .ok (.aload_n 0, 1) := by decide +kernel
theorem dX9_homeOf_15 : decode cX9_homeOf 15 = .ok (.getfield 17, 3) := by decide +kernel
theorem dX9_homeOf_18 : decode cX9_homeOf 18 = .ok (.arraylength, 1) := by decide +kernel
theorem dX9_homeOf_19 : decode cX9_homeOf 19 = .ok (.if_icmp .ge 7, 3) := by decide +kernel
theorem dX9_homeOf_22 : decode cX9_homeOf 22 = .ok (.iload_n 2, 1) := by decide +kernel
theorem dX9_homeOf_23 : decode cX9_homeOf 23 = .ok (.goto 4, 3) := by decide +kernel
theorem dX9_homeOf_26 : decode cX9_homeOf 26 = .ok (.iconst 0, 1) := by decide +kernel
theorem dX9_homeOf_27 : decode cX9_homeOf 27 = .ok (.aaload, 1) := by decide +kernel
theorem dX9_homeOf_28 : decode cX9_homeOf 28 = .ok (.areturn, 1) := by decide +kernel
theorem dX9_parentOf_0 : decode cX9_parentOf 0 = .ok (.aload_n 1, 1) := by decide +kernel
theorem dX9_parentOf_1 : decode cX9_parentOf 1 = .ok (.getfield 59, 3) := by decide +kernel
theorem dX9_parentOf_4 : decode cX9_parentOf 4 = .ok (.istore_n 2, 1) := by decide +kernel
theorem dX9_parentOf_5 : decode cX9_parentOf 5 = .ok (.aload_n 0, 1) := by decide +kernel
theorem dX9_parentOf_6 : decode cX9_parentOf 6 = .ok (.getfield 17, 3) := by decide +kernel
theorem dX9_parentOf_9 : decode cX9_parentOf 9 = .ok (.iload_n 2, 1) := by decide +kernel
theorem dX9_parentOf_10 : decode cX9_parentOf 10 = .ok (.ifCond .lt 16, 3) := by decide +kernel
theorem dX9_parentOf_13 : decode cX9_parentOf 13 = .ok (.iload_n 2, 1) := by decide +kernel
theorem dX9_parentOf_14 : decode cX9_parentOf 14 = .ok (.aload_n 0, 1) := by decide +kernel
theorem dX9_parentOf_15 : decode cX9_parentOf 15 = .ok (.getfield 17, 3) := by decide +kernel
theorem dX9_parentOf_18 : decode cX9_parentOf 18 = .ok (.arraylength, 1) := by decide +kernel
theorem dX9_parentOf_19 : decode cX9_parentOf 19 = .ok (.if_icmp .ge 7, 3) := by decide +kernel
theorem dX9_parentOf_22 : decode cX9_parentOf 22 = .ok (.iload_n 2, 1) := by decide +kernel
theorem dX9_parentOf_23 : decode cX9_parentOf 23 = .ok (.goto 4, 3) := by decide +kernel
theorem dX9_parentOf_26 : decode cX9_parentOf 26 = .ok (.iconst 0, 1) := by decide +kernel
theorem dX9_parentOf_27 : decode cX9_parentOf 27 = .ok (.aaload, 1) := by decide +kernel
theorem dX9_parentOf_28 : decode cX9_parentOf 28 = .ok (.areturn, 1) := by decide +kernel
theorem dX9_freeBranch_0 : decode cX9_freeBranch 0 = .ok (.aload_n 0, 1) := by decide +kernel
theorem dX9_freeBranch_1 : decode cX9_freeBranch 1 = .ok (.getfield 17, 3) := by decide +kernel
theorem dX9_freeBranch_4 : decode cX9_freeBranch 4 = .ok (.astore_n 1, 1) := by decide +kernel
theorem dX9_freeBranch_5 : decode cX9_freeBranch 5 = .ok (.aload_n 1, 1) := by decide +kernel
theorem dX9_freeBranch_6 : decode cX9_freeBranch 6 = .ok (.arraylength, 1) := by decide +kernel
theorem dX9_freeBranch_7 : decode cX9_freeBranch 7 = .ok (.istore_n 2, 1) := by decide +kernel
theorem dX9_freeBranch_8 : decode cX9_freeBranch 8 = .ok (.iconst 0, 1) := by decide +kernel
theorem dX9_freeBranch_9 : decode cX9_freeBranch 9 = .ok (.istore_n 3, 1) := by decide +kernel
theorem dX9_freeBranch_10 : decode cX9_freeBranch 10 = .ok (.iload_n 3, 1) := by decide +kernel
theorem dX9_freeBranch_11 : decode cX9_freeBranch 11 = .ok (.iload_n 2, 1) := by decide +kernel
theorem dX9_freeBranch_12 : decode cX9_freeBranch 12 = .ok (.if_icmp .ge 25, 3) := by decide +kernel
theorem dX9_freeBranch_15 : decode cX9_freeBranch 15 = .ok (.aload_n 1, 1) := by decide +kernel
theorem dX9_freeBranch_16 : decode cX9_freeBranch 16 = .ok (.iload_n 3, 1) := by decide +kernel
theorem dX9_freeBranch_17 : decode cX9_freeBranch 17 = .ok (.aaload, 1) := by decide +kernel
theorem dX9_freeBranch_18 : decode cX9_freeBranch 18 = .ok (.astore 4, 2) := by decide +kernel
theorem dX9_freeBranch_20 : decode cX9_freeBranch 20 = .ok (.aload 4, 2) := by decide +kernel
theorem dX9_freeBranch_22 : decode cX9_freeBranch 22 = .ok (.getfield 31, 3) := by decide +kernel
theorem dX9_freeBranch_25 : decode cX9_freeBranch 25 = .ok (.ifCond .ne 6, 3) := by decide +kernel
theorem dX9_freeBranch_28 : decode cX9_freeBranch 28 = .ok (.aload 4, 2) := by decide +kernel
theorem dX9_freeBranch_30 : decode cX9_freeBranch 30 = .ok (.areturn, 1) := by decide +kernel
theorem dX9_freeBranch_31 : decode cX9_freeBranch 31 = .ok (.iinc 3 1, 3) := by decide +kernel
theorem dX9_freeBranch_34 : decode cX9_freeBranch 34 = .ok (.goto (-24), 3) := by decide +kernel
theorem dX9_freeBranch_37 : decode cX9_freeBranch 37 = .ok (.aconst_null, 1) := by decide +kernel
theorem dX9_freeBranch_38 : decode cX9_freeBranch 38 = .ok (.areturn, 1) := by decide +kernel
theorem dX9_freeReader_0 : decode cX9_freeReader 0 = .ok (.iconst 0, 1) := by decide +kernel
theorem dX9_freeReader_1 : decode cX9_freeReader 1 = .ok (.istore_n 1, 1) := by decide +kernel
theorem dX9_freeReader_2 : decode cX9_freeReader 2 = .ok (.iload_n 1, 1) := by decide +kernel
theorem dX9_freeReader_3 : decode cX9_freeReader 3 = .ok (.aload_n 0, 1) := by decide +kernel
theorem dX9_freeReader_4 : decode cX9_freeReader 4 = .ok (.getfield 23, 3) := by decide +kernel
theorem dX9_freeReader_7 : decode cX9_freeReader 7 = .ok (.arraylength, 1) := by decide +kernel
theorem dX9_freeReader_8 : decode cX9_freeReader 8 = .ok (.if_icmp .ge 23, 3) := by decide +kernel
theorem dX9_freeReader_11 : decode cX9_freeReader 11 = .ok (.aload_n 0, 1) := by decide +kernel
theorem dX9_freeReader_12 : decode cX9_freeReader 12 = .ok (.getfield 23, 3) := by decide +kernel
theorem dX9_freeReader_15 : decode cX9_freeReader 15 = .ok (.iload_n 1, 1) := by decide +kernel
theorem dX9_freeReader_16 : decode cX9_freeReader 16 = .ok (.aaload, 1) := by decide +kernel
theorem dX9_freeReader_17 : decode cX9_freeReader 17 = .ok (.getfield 55, 3) := by decide +kernel
theorem dX9_freeReader_20 : decode cX9_freeReader 20 = .ok (.ifCond .ne 5, 3) := by decide +kernel
theorem dX9_freeReader_23 : decode cX9_freeReader 23 = .ok (.iload_n 1, 1) := by decide +kernel
theorem dX9_freeReader_24 : decode cX9_freeReader 24 = .ok (.ireturn, 1) := by decide +kernel
theorem dX9_freeReader_25 : decode cX9_freeReader 25 = .ok (.iinc 1 1, 3) := by decide +kernel
theorem dX9_freeReader_28 : decode cX9_freeReader 28 = .ok (.goto (-26), 3) := by decide +kernel
theorem dX9_freeReader_31 : decode cX9_freeReader 31 = .ok (.iconst (-1), 1) := by decide +kernel
theorem dX9_freeReader_32 : decode cX9_freeReader 32 = .ok (.ireturn, 1) := by decide +kernel
theorem dX9_seat_0 : decode cX9_seat 0 = .ok (.iload_n 1, 1) := by decide +kernel
theorem dX9_seat_1 : decode cX9_seat 1 = .ok (.ifCond .lt 30, 3) := by decide +kernel
theorem dX9_seat_4 : decode cX9_seat 4 = .ok (.iload_n 1, 1) := by decide +kernel
theorem dX9_seat_5 : decode cX9_seat 5 = .ok (.aload_n 0, 1) := by decide +kernel
theorem dX9_seat_6 : decode cX9_seat 6 = .ok (.getfield 23, 3) := by decide +kernel
theorem dX9_seat_9 : decode cX9_seat 9 = .ok (.arraylength, 1) := by decide +kernel
theorem dX9_seat_10 : decode cX9_seat 10 = .ok (.if_icmp .ge 21, 3) := by decide +kernel
theorem dX9_seat_13 : decode cX9_seat 13 = .ok (.aload_n 0, 1) := by decide +kernel
theorem dX9_seat_14 : decode cX9_seat 14 = .ok (.getfield 23, 3) := by decide +kernel
theorem dX9_seat_17 : decode cX9_seat 17 = .ok (.iload_n 1, 1) := by decide +kernel
theorem dX9_seat_18 : decode cX9_seat 18 = .ok (.aaload, 1) := by decide +kernel
theorem dX9_seat_19 : decode cX9_seat 19 = .ok (.aload_n 2, 1) := by decide +kernel
theorem dX9_seat_20 : decode cX9_seat 20 = .ok (.getfield 62, 3) := by decide +kernel
theorem dX9_seat_23 : decode cX9_seat 23 = .ok (.iload_n 3, 1) := by decide +kernel
theorem dX9_seat_24 : decode cX9_seat 24 = .ok (.aload_n 0, 1) := by decide +kernel
theorem dX9_seat_25 : decode cX9_seat 25 = .ok (.getfield 35, 3) := by decide +kernel
theorem dX9_seat_28 : decode cX9_seat 28 = .ok (.invokevirtual 65, 3) := by decide +kernel
theorem dX9_seat_31 : decode cX9_seat 31 = .ok (.return_, 1) := by decide +kernel
theorem dX9_branchCount_0 : decode cX9_branchCount 0 = .ok (.iconst 0, 1) := by decide +kernel
theorem dX9_branchCount_1 : decode cX9_branchCount 1 = .ok (.istore_n 1, 1) := by decide +kernel
theorem dX9_branchCount_2 : decode cX9_branchCount 2 = .ok (.aload_n 0, 1) := by decide +kernel
theorem dX9_branchCount_3 : decode cX9_branchCount 3 = .ok (.getfield 17, 3) := by decide +kernel
theorem dX9_branchCount_6 : decode cX9_branchCount 6 = .ok (.astore_n 2, 1) := by decide +kernel
theorem dX9_branchCount_7 : decode cX9_branchCount 7 = .ok (.aload_n 2, 1) := by decide +kernel
theorem dX9_branchCount_8 : decode cX9_branchCount 8 = .ok (.arraylength, 1) := by decide +kernel
theorem dX9_branchCount_9 : decode cX9_branchCount 9 = .ok (.istore_n 3, 1) := by decide +kernel
theorem dX9_branchCount_10 : decode cX9_branchCount 10 = .ok (.iconst 0, 1) := by decide +kernel
theorem dX9_branchCount_11 : decode cX9_branchCount 11 = .ok (.istore 4, 2) := by decide +kernel
theorem dX9_branchCount_13 : decode cX9_branchCount 13 = .ok (.iload 4, 2) := by decide +kernel
theorem dX9_branchCount_15 : decode cX9_branchCount 15 = .ok (.iload_n 3, 1) := by decide +kernel
theorem dX9_branchCount_16 : decode cX9_branchCount 16 = .ok (.if_icmp .ge 31, 3) := by decide +kernel
theorem dX9_branchCount_19 : decode cX9_branchCount 19 = .ok (.aload_n 2, 1) := by decide +kernel
theorem dX9_branchCount_20 : decode cX9_branchCount 20 = .ok (.iload 4, 2) := by decide +kernel
theorem dX9_branchCount_22 : decode cX9_branchCount 22 = .ok (.aaload, 1) := by decide +kernel
theorem dX9_branchCount_23 : decode cX9_branchCount 23 = .ok (.astore 5, 2) := by decide +kernel
theorem dX9_branchCount_25 : decode cX9_branchCount 25 = .ok (.iload_n 1, 1) := by decide +kernel
theorem dX9_branchCount_26 : decode cX9_branchCount 26 = .ok (.aload 5, 2) := by decide +kernel
theorem dX9_branchCount_28 : decode cX9_branchCount 28 = .ok (.getfield 31, 3) := by decide +kernel
theorem dX9_branchCount_31 : decode cX9_branchCount 31 = .ok (.ifCond .eq 7, 3) := by decide +kernel
theorem dX9_branchCount_34 : decode cX9_branchCount 34 = .ok (.iconst 1, 1) := by decide +kernel
theorem dX9_branchCount_35 : decode cX9_branchCount 35 = .ok (.goto 4, 3) := by decide +kernel
theorem dX9_branchCount_38 : decode cX9_branchCount 38 = .ok (.iconst 0, 1) := by decide +kernel
theorem dX9_branchCount_39 : decode cX9_branchCount 39 = .ok (.iadd, 1) := by decide +kernel
theorem dX9_branchCount_40 : decode cX9_branchCount 40 = .ok (.istore_n 1, 1) := by decide +kernel
theorem dX9_branchCount_41 : decode cX9_branchCount 41 = .ok (.iinc 4 1, 3) := by decide +kernel
theorem dX9_branchCount_44 : decode cX9_branchCount 44 = .ok (.goto (-31), 3) := by decide +kernel
theorem dX9_branchCount_47 : decode cX9_branchCount 47 = .ok (.iload_n 1, 1) := by decide +kernel
theorem dX9_branchCount_48 : decode cX9_branchCount 48 = .ok (.ireturn, 1) := by decide +kernel
theorem dX9_readerCount_0 : decode cX9_readerCount 0 = .ok (.iconst 0, 1) := by decide +kernel
theorem dX9_readerCount_1 : decode cX9_readerCount 1 = .ok (.istore_n 1, 1) := by decide +kernel
theorem dX9_readerCount_2 : decode cX9_readerCount 2 = .ok (.aload_n 0, 1) := by decide +kernel
theorem dX9_readerCount_3 : decode cX9_readerCount 3 = .ok (.getfield 23, 3) := by decide +kernel
theorem dX9_readerCount_6 : decode cX9_readerCount 6 = .ok (.astore_n 2, 1) := by decide +kernel
theorem dX9_readerCount_7 : decode cX9_readerCount 7 = .ok (.aload_n 2, 1) := by decide +kernel
theorem dX9_readerCount_8 : decode cX9_readerCount 8 = .ok (.arraylength, 1) := by decide +kernel
theorem dX9_readerCount_9 : decode cX9_readerCount 9 = .ok (.istore_n 3, 1) := by decide +kernel
theorem dX9_readerCount_10 : decode cX9_readerCount 10 = .ok (.iconst 0, 1) := by decide +kernel
theorem dX9_readerCount_11 : decode cX9_readerCount 11 = .ok (.istore 4, 2) := by decide +kernel
theorem dX9_readerCount_13 : decode cX9_readerCount 13 = .ok (.iload 4, 2) := by decide +kernel
theorem dX9_readerCount_15 : decode cX9_readerCount 15 = .ok (.iload_n 3, 1) := by decide +kernel
theorem dX9_readerCount_16 : decode cX9_readerCount 16 = .ok (.if_icmp .ge 31, 3) := by decide +kernel
theorem dX9_readerCount_19 : decode cX9_readerCount 19 = .ok (.aload_n 2, 1) := by decide +kernel
theorem dX9_readerCount_20 : decode cX9_readerCount 20 = .ok (.iload 4, 2) := by decide +kernel
theorem dX9_readerCount_22 : decode cX9_readerCount 22 = .ok (.aaload, 1) := by decide +kernel
theorem dX9_readerCount_23 : decode cX9_readerCount 23 = .ok (.astore 5, 2) := by decide +kernel
theorem dX9_readerCount_25 : decode cX9_readerCount 25 = .ok (.iload_n 1, 1) := by decide +kernel
theorem dX9_readerCount_26 : decode cX9_readerCount 26 = .ok (.aload 5, 2) := by decide +kernel
theorem dX9_readerCount_28 : decode cX9_readerCount 28 = .ok (.getfield 55, 3) := by decide +kernel
theorem dX9_readerCount_31 : decode cX9_readerCount 31 = .ok (.ifCond .eq 7, 3) := by decide +kernel
theorem dX9_readerCount_34 : decode cX9_readerCount 34 = .ok (.iconst 1, 1) := by decide +kernel
theorem dX9_readerCount_35 : decode cX9_readerCount 35 = .ok (.goto 4, 3) := by decide +kernel
theorem dX9_readerCount_38 : decode cX9_readerCount 38 = .ok (.iconst 0, 1) := by decide +kernel
theorem dX9_readerCount_39 : decode cX9_readerCount 39 = .ok (.iadd, 1) := by decide +kernel
theorem dX9_readerCount_40 : decode cX9_readerCount 40 = .ok (.istore_n 1, 1) := by decide +kernel
theorem dX9_readerCount_41 : decode cX9_readerCount 41 = .ok (.iinc 4 1, 3) := by decide +kernel
theorem dX9_readerCount_44 : decode cX9_readerCount 44 = .ok (.goto (-31), 3) := by decide +kernel
theorem dX9_readerCount_47 : decode cX9_readerCount 47 = .ok (.iload_n 1, 1) := by decide +kernel
theorem dX9_readerCount_48 : decode cX9_readerCount 48 = .ok (.ireturn, 1) := by decide +kernel
theorem dX9_entryCount_0 : decode cX9_entryCount 0 = .ok (.iconst 0, 1) := by decide +kernel
theorem dX9_entryCount_1 : decode cX9_entryCount 1 = .ok (.istore_n 1, 1) := by decide +kernel
theorem dX9_entryCount_2 : decode cX9_entryCount 2 = .ok (.aload_n 0, 1) := by decide +kernel
theorem dX9_entryCount_3 : decode cX9_entryCount 3 = .ok (.getfield 17, 3) := by decide +kernel
theorem dX9_entryCount_6 : decode cX9_entryCount 6 = .ok (.astore_n 2, 1) := by decide +kernel
theorem dX9_entryCount_7 : decode cX9_entryCount 7 = .ok (.aload_n 2, 1) := by decide +kernel
theorem dX9_entryCount_8 : decode cX9_entryCount 8 = .ok (.arraylength, 1) := by decide +kernel
theorem dX9_entryCount_9 : decode cX9_entryCount 9 = .ok (.istore_n 3, 1) := by decide +kernel
theorem dX9_entryCount_10 : decode cX9_entryCount 10 = .ok (.iconst 0, 1) := by decide +kernel
theorem dX9_entryCount_11 : decode cX9_entryCount 11 = .ok (.istore 4, 2) := by decide +kernel
theorem dX9_entryCount_13 : decode cX9_entryCount 13 = .ok (.iload 4, 2) := by decide +kernel
theorem dX9_entryCount_15 : decode cX9_entryCount 15 = .ok (.iload_n 3, 1) := by decide +kernel
theorem dX9_entryCount_16 : decode cX9_entryCount 16 = .ok (.if_icmp .ge 41, 3) := by decide +kernel
theorem dX9_entryCount_19 : decode cX9_entryCount 19 = .ok (.aload_n 2, 1) := by decide +kernel
theorem dX9_entryCount_20 : decode cX9_entryCount 20 = .ok (.iload 4, 2) := by decide +kernel
theorem dX9_entryCount_22 : decode cX9_entryCount 22 = .ok (.aaload, 1) := by decide +kernel
theorem dX9_entryCount_23 : decode cX9_entryCount 23 = .ok (.astore 5, 2) := by decide +kernel
theorem dX9_entryCount_25 : decode cX9_entryCount 25 = .ok (.iload_n 1, 1) := by decide +kernel
theorem dX9_entryCount_26 : decode cX9_entryCount 26 = .ok (.aload 5, 2) := by decide +kernel
theorem dX9_entryCount_28 : decode cX9_entryCount 28 = .ok (.getfield 31, 3) := by decide +kernel
theorem dX9_entryCount_31 : decode cX9_entryCount 31 = .ok (.ifCond .eq 17, 3) := by decide +kernel
theorem dX9_entryCount_34 : decode cX9_entryCount 34 = .ok (.aload 5, 2) := by decide +kernel
theorem dX9_entryCount_36 : decode cX9_entryCount 36 = .ok (.getfield 69, 3) := by decide +kernel
theorem dX9_entryCount_39 : decode cX9_entryCount 39 = .ok (.aload 5, 2) := by decide +kernel
theorem dX9_entryCount_41 : decode cX9_entryCount 41 = .ok (.getfield 72, 3) := by decide +kernel
theorem dX9_entryCount_44 : decode cX9_entryCount 44 = .ok (.isub, 1) := by decide +kernel
theorem dX9_entryCount_45 : decode cX9_entryCount 45 = .ok (.goto 4, 3) := by decide +kernel
theorem dX9_entryCount_48 : decode cX9_entryCount 48 = .ok (.iconst 0, 1) := by decide +kernel
theorem dX9_entryCount_49 : decode cX9_entryCount 49 = .ok (.iadd, 1) := by decide +kernel
theorem dX9_entryCount_50 : decode cX9_entryCount 50 = .ok (.istore_n 1, 1) := by decide +kernel
theorem dX9_entryCount_51 : decode cX9_entryCount 51 = .ok (.iinc 4 1, 3) := by decide +kernel
theorem dX9_entryCount_54 : decode cX9_entryCount 54 = .ok (.goto (-41), 3) := by decide +kernel
theorem dX9_entryCount_57 : decode cX9_entryCount 57 = .ok (.iload_n 1, 1) := by decide +kernel
theorem dX9_entryCount_58 : decode cX9_entryCount 58 = .ok (.ireturn, 1) := by decide +kernel
theorem dX9_greatestTotal_0 : decode cX9_greatestTotal 0 = .ok (.iconst 0, 1) := by decide +kernel
theorem dX9_greatestTotal_1 : decode cX9_greatestTotal 1 = .ok (.istore_n 1, 1) := by decide +kernel
theorem dX9_greatestTotal_2 : decode cX9_greatestTotal 2 = .ok (.aload_n 0, 1) := by decide +kernel
theorem dX9_greatestTotal_3 : decode cX9_greatestTotal 3 = .ok (.getfield 17, 3) := by decide +kernel
theorem dX9_greatestTotal_6 : decode cX9_greatestTotal 6 = .ok (.astore_n 2, 1) := by decide +kernel
theorem dX9_greatestTotal_7 : decode cX9_greatestTotal 7 = .ok (.aload_n 2, 1) := by decide +kernel
theorem dX9_greatestTotal_8 : decode cX9_greatestTotal 8 = .ok (.arraylength, 1) := by decide +kernel
theorem dX9_greatestTotal_9 : decode cX9_greatestTotal 9 = .ok (.istore_n 3, 1) := by decide +kernel
theorem dX9_greatestTotal_10 : decode cX9_greatestTotal 10 = .ok (.iconst 0, 1) := by decide +kernel
theorem dX9_greatestTotal_11 : decode cX9_greatestTotal 11 = .ok (.istore 4, 2) := by decide +kernel
theorem dX9_greatestTotal_13 : decode cX9_greatestTotal 13 = .ok (.iload 4, 2) := by decide +kernel
theorem dX9_greatestTotal_15 : decode cX9_greatestTotal 15 = .ok (.iload_n 3, 1) := by decide +kernel
theorem dX9_greatestTotal_16 : decode cX9_greatestTotal 16 = .ok (.if_icmp .ge 42, 3) := by decide +kernel
theorem dX9_greatestTotal_19 : decode cX9_greatestTotal 19 = .ok (.aload_n 2, 1) := by decide +kernel
theorem dX9_greatestTotal_20 : decode cX9_greatestTotal 20 = .ok (.iload 4, 2) := by decide +kernel
theorem dX9_greatestTotal_22 : decode cX9_greatestTotal 22 = .ok (.aaload, 1) := by decide +kernel
theorem dX9_greatestTotal_23 : decode cX9_greatestTotal 23 = .ok (.astore 5, 2) := by decide +kernel
theorem dX9_greatestTotal_25 : decode cX9_greatestTotal 25 = .ok (.aload 5, 2) := by decide +kernel
theorem dX9_greatestTotal_27 : decode cX9_greatestTotal 27 = .ok (.getfield 31, 3) := by decide +kernel
theorem dX9_greatestTotal_30 : decode cX9_greatestTotal 30 = .ok (.ifCond .eq 20, 3) := by decide +kernel
theorem dX9_greatestTotal_33 : decode cX9_greatestTotal 33 = .ok (.aload 5, 2) := by decide +kernel
theorem dX9_greatestTotal_35 : decode cX9_greatestTotal 35 = .ok (.getfield 75, 3) := by decide +kernel
theorem dX9_greatestTotal_38 : decode cX9_greatestTotal 38 = .ok (.iload_n 1, 1) := by decide +kernel
theorem dX9_greatestTotal_39 : decode cX9_greatestTotal 39 = .ok (.if_icmp .le 11, 3) := by decide +kernel
theorem dX9_greatestTotal_42 : decode cX9_greatestTotal 42 = .ok (.aload 5, 2) := by decide +kernel
theorem dX9_greatestTotal_44 : decode cX9_greatestTotal 44 = .ok (.getfield 75, 3) := by decide +kernel
theorem dX9_greatestTotal_47 : decode cX9_greatestTotal 47 = .ok (.goto 4, 3) := by decide +kernel
theorem dX9_greatestTotal_50 : decode cX9_greatestTotal 50 = .ok (.iload_n 1, 1) := by decide +kernel
theorem dX9_greatestTotal_51 : decode cX9_greatestTotal 51 = .ok (.istore_n 1, 1) := by decide +kernel
theorem dX9_greatestTotal_52 : decode cX9_greatestTotal 52 = .ok (.iinc 4 1, 3) := by decide +kernel
theorem dX9_greatestTotal_55 : decode cX9_greatestTotal 55 = .ok (.goto (-42), 3) := by decide +kernel
theorem dX9_greatestTotal_58 : decode cX9_greatestTotal 58 = .ok (.iload_n 1, 1) := by decide +kernel
theorem dX9_greatestTotal_59 : decode cX9_greatestTotal 59 = .ok (.ireturn, 1) := by decide +kernel
theorem dX9_brokenCount_0 : decode cX9_brokenCount 0 = .ok (.iconst 0, 1) := by decide +kernel
theorem dX9_brokenCount_1 : decode cX9_brokenCount 1 = .ok (.istore_n 1, 1) := by decide +kernel
theorem dX9_brokenCount_2 : decode cX9_brokenCount 2 = .ok (.aload_n 0, 1) := by decide +kernel
theorem dX9_brokenCount_3 : decode cX9_brokenCount 3 = .ok (.getfield 23, 3) := by decide +kernel
theorem dX9_brokenCount_6 : decode cX9_brokenCount 6 = .ok (.astore_n 2, 1) := by decide +kernel
theorem dX9_brokenCount_7 : decode cX9_brokenCount 7 = .ok (.aload_n 2, 1) := by decide +kernel
theorem dX9_brokenCount_8 : decode cX9_brokenCount 8 = .ok (.arraylength, 1) := by decide +kernel
theorem dX9_brokenCount_9 : decode cX9_brokenCount 9 = .ok (.istore_n 3, 1) := by decide +kernel
theorem dX9_brokenCount_10 : decode cX9_brokenCount 10 = .ok (.iconst 0, 1) := by decide +kernel
theorem dX9_brokenCount_11 : decode cX9_brokenCount 11 = .ok (.istore 4, 2) := by decide +kernel
theorem dX9_brokenCount_13 : decode cX9_brokenCount 13 = .ok (.iload 4, 2) := by decide +kernel
theorem dX9_brokenCount_15 : decode cX9_brokenCount 15 = .ok (.iload_n 3, 1) := by decide +kernel
theorem dX9_brokenCount_16 : decode cX9_brokenCount 16 = .ok (.if_icmp .ge 35, 3) := by decide +kernel
theorem dX9_brokenCount_19 : decode cX9_brokenCount 19 = .ok (.aload_n 2, 1) := by decide +kernel
theorem dX9_brokenCount_20 : decode cX9_brokenCount 20 = .ok (.iload 4, 2) := by decide +kernel
theorem dX9_brokenCount_22 : decode cX9_brokenCount 22 = .ok (.aaload, 1) := by decide +kernel
theorem dX9_brokenCount_23 : decode cX9_brokenCount 23 = .ok (.astore 5, 2) := by decide +kernel
theorem dX9_brokenCount_25 : decode cX9_brokenCount 25 = .ok (.iload_n 1, 1) := by decide +kernel
theorem dX9_brokenCount_26 : decode cX9_brokenCount 26 = .ok (.aload 5, 2) := by decide +kernel
theorem dX9_brokenCount_28 : decode cX9_brokenCount 28 = .ok (.getfield 55, 3) := by decide +kernel
theorem dX9_brokenCount_31 : decode cX9_brokenCount 31 = .ok (.ifCond .eq 11, 3) := by decide +kernel
theorem dX9_brokenCount_34 : decode cX9_brokenCount 34 = .ok (.aload 5, 2) := by decide +kernel
theorem dX9_brokenCount_36 : decode cX9_brokenCount 36 = .ok (.getfield 78, 3) := by decide +kernel
theorem dX9_brokenCount_39 : decode cX9_brokenCount 39 = .ok (.goto 4, 3) := by decide +kernel
theorem dX9_brokenCount_42 : decode cX9_brokenCount 42 = .ok (.iconst 0, 1) := by decide +kernel
theorem dX9_brokenCount_43 : decode cX9_brokenCount 43 = .ok (.iadd, 1) := by decide +kernel
theorem dX9_brokenCount_44 : decode cX9_brokenCount 44 = .ok (.istore_n 1, 1) := by decide +kernel
theorem dX9_brokenCount_45 : decode cX9_brokenCount 45 = .ok (.iinc 4 1, 3) := by decide +kernel
theorem dX9_brokenCount_48 : decode cX9_brokenCount 48 = .ok (.goto (-35), 3) := by decide +kernel
theorem dX9_brokenCount_51 : decode cX9_brokenCount 51 = .ok (.iload_n 1, 1) := by decide +kernel
theorem dX9_brokenCount_52 : decode cX9_brokenCount 52 = .ok (.ireturn, 1) := by decide +kernel
theorem dX9_debtCount_0 : decode cX9_debtCount 0 = .ok (.iconst 0, 1) := by decide +kernel
theorem dX9_debtCount_1 : decode cX9_debtCount 1 = .ok (.istore_n 1, 1) := by decide +kernel
theorem dX9_debtCount_2 : decode cX9_debtCount 2 = .ok (.aload_n 0, 1) := by decide +kernel
theorem dX9_debtCount_3 : decode cX9_debtCount 3 = .ok (.getfield 23, 3) := by decide +kernel
theorem dX9_debtCount_6 : decode cX9_debtCount 6 = .ok (.astore_n 2, 1) := by decide +kernel
theorem dX9_debtCount_7 : decode cX9_debtCount 7 = .ok (.aload_n 2, 1) := by decide +kernel
theorem dX9_debtCount_8 : decode cX9_debtCount 8 = .ok (.arraylength, 1) := by decide +kernel
theorem dX9_debtCount_9 : decode cX9_debtCount 9 = .ok (.istore_n 3, 1) := by decide +kernel
theorem dX9_debtCount_10 : decode cX9_debtCount 10 = .ok (.iconst 0, 1) := by decide +kernel
theorem dX9_debtCount_11 : decode cX9_debtCount 11 = .ok (.istore 4, 2) := by decide +kernel
theorem dX9_debtCount_13 : decode cX9_debtCount 13 = .ok (.iload 4, 2) := by decide +kernel
theorem dX9_debtCount_15 : decode cX9_debtCount 15 = .ok (.iload_n 3, 1) := by decide +kernel
theorem dX9_debtCount_16 : decode cX9_debtCount 16 = .ok (.if_icmp .ge 38, 3) := by decide +kernel
theorem dX9_debtCount_19 : decode cX9_debtCount 19 = .ok (.aload_n 2, 1) := by decide +kernel
theorem dX9_debtCount_20 : decode cX9_debtCount 20 = .ok (.iload 4, 2) := by decide +kernel
theorem dX9_debtCount_22 : decode cX9_debtCount 22 = .ok (.aaload, 1) := by decide +kernel
theorem dX9_debtCount_23 : decode cX9_debtCount 23 = .ok (.astore 5, 2) := by decide +kernel
theorem dX9_debtCount_25 : decode cX9_debtCount 25 = .ok (.iload_n 1, 1) := by decide +kernel
theorem dX9_debtCount_26 : decode cX9_debtCount 26 = .ok (.aload 5, 2) := by decide +kernel
theorem dX9_debtCount_28 : decode cX9_debtCount 28 = .ok (.getfield 55, 3) := by decide +kernel
theorem dX9_debtCount_31 : decode cX9_debtCount 31 = .ok (.ifCond .eq 14, 3) := by decide +kernel
theorem dX9_debtCount_34 : decode cX9_debtCount 34 = .ok (.aload 5, 2) := by decide +kernel
theorem dX9_debtCount_36 : decode cX9_debtCount 36 = .ok (.getfield 81, 3) := by decide +kernel
theorem dX9_debtCount_39 : decode cX9_debtCount 39 = .ok (.getfield 85, 3) := by decide +kernel
theorem dX9_debtCount_42 : decode cX9_debtCount 42 = .ok (.goto 4, 3) := by decide +kernel
theorem dX9_debtCount_45 : decode cX9_debtCount 45 = .ok (.iconst 0, 1) := by decide +kernel
theorem dX9_debtCount_46 : decode cX9_debtCount 46 = .ok (.iadd, 1) := by decide +kernel
theorem dX9_debtCount_47 : decode cX9_debtCount 47 = .ok (.istore_n 1, 1) := by decide +kernel
theorem dX9_debtCount_48 : decode cX9_debtCount 48 = .ok (.iinc 4 1, 3) := by decide +kernel
theorem dX9_debtCount_51 : decode cX9_debtCount 51 = .ok (.goto (-38), 3) := by decide +kernel
theorem dX9_debtCount_54 : decode cX9_debtCount 54 = .ok (.iload_n 1, 1) := by decide +kernel
theorem dX9_debtCount_55 : decode cX9_debtCount 55 = .ok (.ireturn, 1) := by decide +kernel
theorem dX9_owedTo_0 : decode cX9_owedTo 0 = .ok (.aload_n 0, 1) := by decide +kernel
theorem dX9_owedTo_1 : decode cX9_owedTo 1 = .ok (.iload_n 1, 1) := by decide +kernel
theorem dX9_owedTo_2 : decode cX9_owedTo 2 = .ok (.invokevirtual 90, 3) := by decide +kernel
theorem dX9_owedTo_5 : decode cX9_owedTo 5 = .ok (.astore_n 2, 1) := by decide +kernel
theorem dX9_owedTo_6 : decode cX9_owedTo 6 = .ok (.aload_n 2, 1) := by decide +kernel
theorem dX9_owedTo_7 : decode cX9_owedTo 7 = .ok (.ifnonnull 7, 3) := by decide +kernel
theorem dX9_owedTo_10 : decode cX9_owedTo 10 = .ok (.iconst 0, 1) := by decide +kernel
theorem dX9_owedTo_11 : decode cX9_owedTo 11 = .ok (.goto 10, 3) := by decide +kernel
theorem dX9_owedTo_14 : decode cX9_owedTo 14 = .ok (.aload_n 2, 1) := by decide +kernel
theorem dX9_owedTo_15 : decode cX9_owedTo 15 = .ok (.getfield 81, 3) := by decide +kernel
theorem dX9_owedTo_18 : decode cX9_owedTo 18 = .ok (.getfield 85, 3) := by decide +kernel
theorem dX9_owedTo_21 : decode cX9_owedTo 21 = .ok (.ireturn, 1) := by decide +kernel
theorem dX9_childrenOf_0 : decode cX9_childrenOf 0 = .ok (.iconst 0, 1) := by decide +kernel
theorem dX9_childrenOf_1 : decode cX9_childrenOf 1 = .ok (.istore_n 2, 1) := by decide +kernel
theorem dX9_childrenOf_2 : decode cX9_childrenOf 2 = .ok (.aload_n 0, 1) := by decide +kernel
theorem dX9_childrenOf_3 : decode cX9_childrenOf 3 = .ok (.getfield 17, 3) := by decide +kernel
theorem dX9_childrenOf_6 : decode cX9_childrenOf 6 = .ok (.astore_n 3, 1) := by decide +kernel
theorem dX9_childrenOf_7 : decode cX9_childrenOf 7 = .ok (.aload_n 3, 1) := by decide +kernel
theorem dX9_childrenOf_8 : decode cX9_childrenOf 8 = .ok (.arraylength, 1) := by decide +kernel
theorem dX9_childrenOf_9 : decode cX9_childrenOf 9 = .ok (.istore 4, 2) := by decide +kernel
theorem dX9_childrenOf_11 : decode cX9_childrenOf 11 = .ok (.iconst 0, 1) := by decide +kernel
theorem dX9_childrenOf_12 : decode cX9_childrenOf 12 = .ok (.istore 5, 2) := by decide +kernel
theorem dX9_childrenOf_14 : decode cX9_childrenOf 14 = .ok (.iload 5, 2) := by decide +kernel
theorem dX9_childrenOf_16 : decode cX9_childrenOf 16 = .ok (.iload 4, 2) := by decide +kernel
theorem dX9_childrenOf_18 : decode cX9_childrenOf 18 = .ok (.if_icmp .ge 43, 3) := by decide +kernel
theorem dX9_childrenOf_21 : decode cX9_childrenOf 21 = .ok (.aload_n 3, 1) := by decide +kernel
theorem dX9_childrenOf_22 : decode cX9_childrenOf 22 = .ok (.iload 5, 2) := by decide +kernel
theorem dX9_childrenOf_24 : decode cX9_childrenOf 24 = .ok (.aaload, 1) := by decide +kernel
theorem dX9_childrenOf_25 : decode cX9_childrenOf 25 = .ok (.astore 6, 2) := by decide +kernel
theorem dX9_childrenOf_27 : decode cX9_childrenOf 27 = .ok (.iload_n 2, 1) := by decide +kernel
theorem dX9_childrenOf_28 : decode cX9_childrenOf 28 = .ok (.aload 6, 2) := by decide +kernel
theorem dX9_childrenOf_30 : decode cX9_childrenOf 30 = .ok (.getfield 31, 3) := by decide +kernel
theorem dX9_childrenOf_33 : decode cX9_childrenOf 33 = .ok (.ifCond .eq 19, 3) := by decide +kernel
theorem dX9_childrenOf_36 : decode cX9_childrenOf 36 = .ok (.aload 6, 2) := by decide +kernel
theorem dX9_childrenOf_38 : decode cX9_childrenOf 38 = .ok (.getfield 59, 3) := by decide +kernel
theorem dX9_childrenOf_41 : decode cX9_childrenOf 41 = .ok (.aload_n 1, 1) := by decide +kernel
theorem dX9_childrenOf_42 : decode cX9_childrenOf 42 = .ok (.getfield 62, 3) := by decide +kernel
theorem dX9_childrenOf_45 : decode cX9_childrenOf 45 = .ok (.if_icmp .ne 7, 3) := by decide +kernel
theorem dX9_childrenOf_48 : decode cX9_childrenOf 48 = .ok (.iconst 1, 1) := by decide +kernel
theorem dX9_childrenOf_49 : decode cX9_childrenOf 49 = .ok (.goto 4, 3) := by decide +kernel
theorem dX9_childrenOf_52 : decode cX9_childrenOf 52 = .ok (.iconst 0, 1) := by decide +kernel
theorem dX9_childrenOf_53 : decode cX9_childrenOf 53 = .ok (.iadd, 1) := by decide +kernel
theorem dX9_childrenOf_54 : decode cX9_childrenOf 54 = .ok (.istore_n 2, 1) := by decide +kernel
theorem dX9_childrenOf_55 : decode cX9_childrenOf 55 = .ok (.iinc 5 1, 3) := by decide +kernel
theorem dX9_childrenOf_58 : decode cX9_childrenOf 58 = .ok (.goto (-44), 3) := by decide +kernel
theorem dX9_childrenOf_61 : decode cX9_childrenOf 61 = .ok (.iload_n 2, 1) := by decide +kernel
theorem dX9_childrenOf_62 : decode cX9_childrenOf 62 = .ok (.ireturn, 1) := by decide +kernel
theorem dX9_readersIn_0 : decode cX9_readersIn 0 = .ok (.iconst 0, 1) := by decide +kernel
theorem dX9_readersIn_1 : decode cX9_readersIn 1 = .ok (.istore_n 2, 1) := by decide +kernel
theorem dX9_readersIn_2 : decode cX9_readersIn 2 = .ok (.aload_n 0, 1) := by decide +kernel
theorem dX9_readersIn_3 : decode cX9_readersIn 3 = .ok (.getfield 23, 3) := by decide +kernel
theorem dX9_readersIn_6 : decode cX9_readersIn 6 = .ok (.astore_n 3, 1) := by decide +kernel
theorem dX9_readersIn_7 : decode cX9_readersIn 7 = .ok (.aload_n 3, 1) := by decide +kernel
theorem dX9_readersIn_8 : decode cX9_readersIn 8 = .ok (.arraylength, 1) := by decide +kernel
theorem dX9_readersIn_9 : decode cX9_readersIn 9 = .ok (.istore 4, 2) := by decide +kernel
theorem dX9_readersIn_11 : decode cX9_readersIn 11 = .ok (.iconst 0, 1) := by decide +kernel
theorem dX9_readersIn_12 : decode cX9_readersIn 12 = .ok (.istore 5, 2) := by decide +kernel
theorem dX9_readersIn_14 : decode cX9_readersIn 14 = .ok (.iload 5, 2) := by decide +kernel
theorem dX9_readersIn_16 : decode cX9_readersIn 16 = .ok (.iload 4, 2) := by decide +kernel
theorem dX9_readersIn_18 : decode cX9_readersIn 18 = .ok (.if_icmp .ge 32, 3) := by decide +kernel
theorem dX9_readersIn_21 : decode cX9_readersIn 21 = .ok (.aload_n 3, 1) := by decide +kernel
theorem dX9_readersIn_22 : decode cX9_readersIn 22 = .ok (.iload 5, 2) := by decide +kernel
theorem dX9_readersIn_24 : decode cX9_readersIn 24 = .ok (.aaload, 1) := by decide +kernel
theorem dX9_readersIn_25 : decode cX9_readersIn 25 = .ok (.astore 6, 2) := by decide +kernel
theorem dX9_readersIn_27 : decode cX9_readersIn 27 = .ok (.iload_n 2, 1) := by decide +kernel
theorem dX9_readersIn_28 : decode cX9_readersIn 28 = .ok (.aload 6, 2) := by decide +kernel
theorem dX9_readersIn_30 : decode cX9_readersIn 30 = .ok (.aload_n 1, 1) := by decide +kernel
theorem dX9_readersIn_31 : decode cX9_readersIn 31 = .ok (.invokevirtual 94, 3) := by decide +kernel
theorem dX9_readersIn_34 : decode cX9_readersIn 34 = .ok (.ifCond .eq 7, 3) := by decide +kernel
theorem dX9_readersIn_37 : decode cX9_readersIn 37 = .ok (.iconst 1, 1) := by decide +kernel
theorem dX9_readersIn_38 : decode cX9_readersIn 38 = .ok (.goto 4, 3) := by decide +kernel
theorem dX9_readersIn_41 : decode cX9_readersIn 41 = .ok (.iconst 0, 1) := by decide +kernel
theorem dX9_readersIn_42 : decode cX9_readersIn 42 = .ok (.iadd, 1) := by decide +kernel
theorem dX9_readersIn_43 : decode cX9_readersIn 43 = .ok (.istore_n 2, 1) := by decide +kernel
theorem dX9_readersIn_44 : decode cX9_readersIn 44 = .ok (.iinc 5 1, 3) := by decide +kernel
theorem dX9_readersIn_47 : decode cX9_readersIn 47 = .ok (.goto (-33), 3) := by decide +kernel
theorem dX9_readersIn_50 : decode cX9_readersIn 50 = .ok (.iload_n 2, 1) := by decide +kernel
theorem dX9_readersIn_51 : decode cX9_readersIn 51 = .ok (.ireturn, 1) := by decide +kernel
theorem dX9_readersNotBehind_0 : decode cX9_readersNotBehind 0 = .ok (.iconst 0, 1) := by decide +kernel
theorem dX9_readersNotBehind_1 : decode cX9_readersNotBehind 1 = .ok (.istore_n 3, 1) := by decide +kernel
theorem dX9_readersNotBehind_2 : decode cX9_readersNotBehind 2 = .ok (.aload_n 0, 1) := by decide +kernel
theorem dX9_readersNotBehind_3 : decode cX9_readersNotBehind 3 = .ok (.getfield 23, 3) := by decide +kernel
theorem dX9_readersNotBehind_6 : decode cX9_readersNotBehind 6 = .ok (.astore 4, 2) := by decide +kernel
theorem dX9_readersNotBehind_8 : decode cX9_readersNotBehind 8 = .ok (.aload 4, 2) := by decide +kernel
theorem dX9_readersNotBehind_10 : decode cX9_readersNotBehind 10 = .ok (.arraylength, 1) := by decide +kernel
theorem dX9_readersNotBehind_11 : decode cX9_readersNotBehind 11 = .ok (.istore 5, 2) := by decide +kernel
theorem dX9_readersNotBehind_13 : decode cX9_readersNotBehind 13 = .ok (.iconst 0, 1) := by decide +kernel
theorem dX9_readersNotBehind_14 : decode cX9_readersNotBehind 14 = .ok (.istore 6, 2) := by decide +kernel
theorem dX9_readersNotBehind_16 : decode cX9_readersNotBehind 16 = .ok (.iload 6, 2) := by decide +kernel
theorem dX9_readersNotBehind_18 : decode cX9_readersNotBehind 18 = .ok (.iload 5, 2) := by decide +kernel
theorem dX9_readersNotBehind_20 : decode cX9_readersNotBehind 20 = .ok (.if_icmp .ge 42, 3) := by decide +kernel
theorem dX9_readersNotBehind_23 : decode cX9_readersNotBehind 23 = .ok (.aload 4, 2) := by decide +kernel
theorem dX9_readersNotBehind_25 : decode cX9_readersNotBehind 25 = .ok (.iload 6, 2) := by decide +kernel
theorem dX9_readersNotBehind_27 : decode cX9_readersNotBehind 27 = .ok (.aaload, 1) := by decide +kernel
theorem dX9_readersNotBehind_28 : decode cX9_readersNotBehind 28 = .ok (.astore 7, 2) := by decide +kernel
theorem dX9_readersNotBehind_30 : decode cX9_readersNotBehind 30 = .ok (.iload_n 3, 1) := by decide +kernel
theorem dX9_readersNotBehind_31 : decode cX9_readersNotBehind 31 = .ok (.aload 7, 2) := by decide +kernel
theorem dX9_readersNotBehind_33 : decode cX9_readersNotBehind 33 = .ok (.aload_n 1, 1) := by decide +kernel
theorem dX9_readersNotBehind_34 : decode cX9_readersNotBehind 34 = .ok (.invokevirtual 94, 3) := by decide +kernel
theorem dX9_readersNotBehind_37 : decode cX9_readersNotBehind 37 = .ok (.ifCond .eq 16, 3) := by decide +kernel
theorem dX9_readersNotBehind_40 : decode cX9_readersNotBehind 40 = .ok (.aload 7, 2) := by decide +kernel
theorem dX9_readersNotBehind_42 : decode cX9_readersNotBehind 42 = .ok (.getfield 98, 3) := by decide +kernel
theorem dX9_readersNotBehind_45 : decode cX9_readersNotBehind 45 = .ok (.iload_n 2, 1) := by decide +kernel
theorem dX9_readersNotBehind_46 : decode cX9_readersNotBehind 46 = .ok (.if_icmp .gt 7, 3) := by decide +kernel
theorem dX9_readersNotBehind_49 : decode cX9_readersNotBehind 49 = .ok (.iconst 1, 1) := by decide +kernel
theorem dX9_readersNotBehind_50 : decode cX9_readersNotBehind 50 = .ok (.goto 4, 3) := by decide +kernel
theorem dX9_readersNotBehind_53 : decode cX9_readersNotBehind 53 = .ok (.iconst 0, 1) := by decide +kernel
theorem dX9_readersNotBehind_54 : decode cX9_readersNotBehind 54 = .ok (.iadd, 1) := by decide +kernel
theorem dX9_readersNotBehind_55 : decode cX9_readersNotBehind 55 = .ok (.istore_n 3, 1) := by decide +kernel
theorem dX9_readersNotBehind_56 : decode cX9_readersNotBehind 56 = .ok (.iinc 6 1, 3) := by decide +kernel
theorem dX9_readersNotBehind_59 : decode cX9_readersNotBehind 59 = .ok (.goto (-43), 3) := by decide +kernel
theorem dX9_readersNotBehind_62 : decode cX9_readersNotBehind 62 = .ok (.iload_n 3, 1) := by decide +kernel
theorem dX9_readersNotBehind_63 : decode cX9_readersNotBehind 63 = .ok (.ireturn, 1) := by decide +kernel
theorem dX9_slowestIn_0 : decode cX9_slowestIn 0 = .ok (.iconst (-1), 1) := by decide +kernel
theorem dX9_slowestIn_1 : decode cX9_slowestIn 1 = .ok (.istore_n 2, 1) := by decide +kernel
theorem dX9_slowestIn_2 : decode cX9_slowestIn 2 = .ok (.ldc 101, 2) := by decide +kernel
theorem dX9_slowestIn_4 : decode cX9_slowestIn 4 = .ok (.istore_n 3, 1) := by decide +kernel
theorem dX9_slowestIn_5 : decode cX9_slowestIn 5 = .ok (.iconst 0, 1) := by decide +kernel
theorem dX9_slowestIn_6 : decode cX9_slowestIn 6 = .ok (.istore 4, 2) := by decide +kernel
theorem dX9_slowestIn_8 : decode cX9_slowestIn 8 = .ok (.iload 4, 2) := by decide +kernel
theorem dX9_slowestIn_10 : decode cX9_slowestIn 10 = .ok (.aload_n 0, 1) := by decide +kernel
theorem dX9_slowestIn_11 : decode cX9_slowestIn 11 = .ok (.getfield 23, 3) := by decide +kernel
theorem dX9_slowestIn_14 : decode cX9_slowestIn 14 = .ok (.arraylength, 1) := by decide +kernel
theorem dX9_slowestIn_15 : decode cX9_slowestIn 15 = .ok (.if_icmp .ge 45, 3) := by decide +kernel
theorem dX9_slowestIn_18 : decode cX9_slowestIn 18 = .ok (.aload_n 0, 1) := by decide +kernel
theorem dX9_slowestIn_19 : decode cX9_slowestIn 19 = .ok (.getfield 23, 3) := by decide +kernel
theorem dX9_slowestIn_22 : decode cX9_slowestIn 22 = .ok (.iload 4, 2) := by decide +kernel
theorem dX9_slowestIn_24 : decode cX9_slowestIn 24 = .ok (.aaload, 1) := by decide +kernel
theorem dX9_slowestIn_25 : decode cX9_slowestIn 25 = .ok (.astore 5, 2) := by decide +kernel
theorem dX9_slowestIn_27 : decode cX9_slowestIn 27 = .ok (.aload 5, 2) := by decide +kernel
theorem dX9_slowestIn_29 : decode cX9_slowestIn 29 = .ok (.aload_n 1, 1) := by decide +kernel
theorem dX9_slowestIn_30 : decode cX9_slowestIn 30 = .ok (.invokevirtual 94, 3) := by decide +kernel
theorem dX9_slowestIn_33 : decode cX9_slowestIn 33 = .ok (.ifCond .eq 21, 3) := by decide +kernel
theorem dX9_slowestIn_36 : decode cX9_slowestIn 36 = .ok (.aload 5, 2) := by decide +kernel
theorem dX9_slowestIn_38 : decode cX9_slowestIn 38 = .ok (.getfield 98, 3) := by decide +kernel
theorem dX9_slowestIn_41 : decode cX9_slowestIn 41 = .ok (.iload_n 3, 1) := by decide +kernel
theorem dX9_slowestIn_42 : decode cX9_slowestIn 42 = .ok (.if_icmp .ge 12, 3) := by decide +kernel
theorem dX9_slowestIn_45 : decode cX9_slowestIn 45 = .ok (.iload 4, 2) := by decide +kernel
theorem dX9_slowestIn_47 : decode cX9_slowestIn 47 = .ok (.istore_n 2, 1) := by decide +kernel
theorem dX9_slowestIn_48 : decode cX9_slowestIn 48 = .ok (.aload 5, 2) := by decide +kernel
theorem dX9_slowestIn_50 : decode cX9_slowestIn 50 = .ok (.getfield 98, 3) := by decide +kernel
theorem dX9_slowestIn_53 : decode cX9_slowestIn 53 = .ok (.istore_n 3, 1) := by decide +kernel
theorem dX9_slowestIn_54 : decode cX9_slowestIn 54 = .ok (.iinc 4 1, 3) := by decide +kernel
theorem dX9_slowestIn_57 : decode cX9_slowestIn 57 = .ok (.goto (-49), 3) := by decide +kernel
theorem dX9_slowestIn_60 : decode cX9_slowestIn 60 = .ok (.iload_n 2, 1) := by decide +kernel
theorem dX9_slowestIn_61 : decode cX9_slowestIn 61 = .ok (.ireturn, 1) := by decide +kernel
theorem dX9_promisedAt_0 : decode cX9_promisedAt 0 = .ok (.iconst 0, 1) := by decide +kernel
theorem dX9_promisedAt_1 : decode cX9_promisedAt 1 = .ok (.istore_n 2, 1) := by decide +kernel
theorem dX9_promisedAt_2 : decode cX9_promisedAt 2 = .ok (.iload_n 2, 1) := by decide +kernel
theorem dX9_promisedAt_3 : decode cX9_promisedAt 3 = .ok (.aload_n 0, 1) := by decide +kernel
theorem dX9_promisedAt_4 : decode cX9_promisedAt 4 = .ok (.getfield 23, 3) := by decide +kernel
theorem dX9_promisedAt_7 : decode cX9_promisedAt 7 = .ok (.arraylength, 1) := by decide +kernel
theorem dX9_promisedAt_8 : decode cX9_promisedAt 8 = .ok (.if_icmp .ge 41, 3) := by decide +kernel
theorem dX9_promisedAt_11 : decode cX9_promisedAt 11 = .ok (.aload_n 0, 1) := by decide +kernel
theorem dX9_promisedAt_12 : decode cX9_promisedAt 12 = .ok (.getfield 23, 3) := by decide +kernel
theorem dX9_promisedAt_15 : decode cX9_promisedAt 15 = .ok (.iload_n 2, 1) := by decide +kernel
theorem dX9_promisedAt_16 : decode cX9_promisedAt 16 = .ok (.aaload, 1) := by decide +kernel
theorem dX9_promisedAt_17 : decode cX9_promisedAt 17 = .ok (.invokevirtual 102, 3) := by decide +kernel
theorem dX9_promisedAt_20 : decode cX9_promisedAt 20 = .ok (.ifCond .eq 23, 3) := by decide +kernel
theorem dX9_promisedAt_23 : decode cX9_promisedAt 23 = .ok (.aload_n 0, 1) := by decide +kernel
theorem dX9_promisedAt_24 : decode cX9_promisedAt 24 = .ok (.iload_n 2, 1) := by decide +kernel
theorem dX9_promisedAt_25 : decode cX9_promisedAt 25 = .ok (.aload_n 0, 1) := by decide +kernel
theorem dX9_promisedAt_26 : decode cX9_promisedAt 26 = .ok (.getfield 23, 3) := by decide +kernel
theorem dX9_promisedAt_29 : decode cX9_promisedAt 29 = .ok (.iload_n 2, 1) := by decide +kernel
theorem dX9_promisedAt_30 : decode cX9_promisedAt 30 = .ok (.aaload, 1) := by decide +kernel
theorem dX9_promisedAt_31 : decode cX9_promisedAt 31 = .ok (.getfield 106, 3) := by decide +kernel
theorem dX9_promisedAt_34 : decode cX9_promisedAt 34 = .ok (.invokevirtual 109, 3) := by decide +kernel
theorem dX9_promisedAt_37 : decode cX9_promisedAt 37 = .ok (.iload_n 1, 1) := by decide +kernel
theorem dX9_promisedAt_38 : decode cX9_promisedAt 38 = .ok (.if_icmp .ne 5, 3) := by decide +kernel
theorem dX9_promisedAt_41 : decode cX9_promisedAt 41 = .ok (.iload_n 2, 1) := by decide +kernel
theorem dX9_promisedAt_42 : decode cX9_promisedAt 42 = .ok (.ireturn, 1) := by decide +kernel
theorem dX9_promisedAt_43 : decode cX9_promisedAt 43 = .ok (.iinc 2 1, 3) := by decide +kernel
theorem dX9_promisedAt_46 : decode cX9_promisedAt 46 = .ok (.goto (-44), 3) := by decide +kernel
theorem dX9_promisedAt_49 : decode cX9_promisedAt 49 = .ok (.iconst (-1), 1) := by decide +kernel
theorem dX9_promisedAt_50 : decode cX9_promisedAt 50 = .ok (.ireturn, 1) := by decide +kernel
theorem dX9_promisesAhead_0 : decode cX9_promisesAhead 0 = .ok (.iconst 0, 1) := by decide +kernel
theorem dX9_promisesAhead_1 : decode cX9_promisesAhead 1 = .ok (.istore_n 3, 1) := by decide +kernel
theorem dX9_promisesAhead_2 : decode cX9_promisesAhead 2 = .ok (.iconst 0, 1) := by decide +kernel
theorem dX9_promisesAhead_3 : decode cX9_promisesAhead 3 = .ok (.istore 4, 2) := by decide +kernel
theorem dX9_promisesAhead_5 : decode cX9_promisesAhead 5 = .ok (.iload 4, 2) := by decide +kernel
theorem dX9_promisesAhead_7 : decode cX9_promisesAhead 7 = .ok (.aload_n 0, 1) := by decide +kernel
theorem dX9_promisesAhead_8 : decode cX9_promisesAhead 8 = .ok (.getfield 23, 3) := by decide +kernel
theorem dX9_promisesAhead_11 : decode cX9_promisesAhead 11 = .ok (.arraylength, 1) := by decide +kernel
theorem dX9_promisesAhead_12 : decode cX9_promisesAhead 12 = .ok (.if_icmp .ge 70, 3) := by decide +kernel
theorem dX9_promisesAhead_15 : decode cX9_promisesAhead 15 = .ok (.aload_n 0, 1) := by decide +kernel
theorem dX9_promisesAhead_16 : decode cX9_promisesAhead 16 = .ok (.getfield 23, 3) := by decide +kernel
theorem dX9_promisesAhead_19 : decode cX9_promisesAhead 19 = .ok (.iload 4, 2) := by decide +kernel
theorem dX9_promisesAhead_21 : decode cX9_promisesAhead 21 = .ok (.aaload, 1) := by decide +kernel
theorem dX9_promisesAhead_22 : decode cX9_promisesAhead 22 = .ok (.astore 5, 2) := by decide +kernel
theorem dX9_promisesAhead_24 : decode cX9_promisesAhead 24 = .ok (.aload 5, 2) := by decide +kernel
theorem dX9_promisesAhead_26 : decode cX9_promisesAhead 26 = .ok (.getfield 106, 3) := by decide +kernel
theorem dX9_promisesAhead_29 : decode cX9_promisesAhead 29 = .ok (.iload_n 2, 1) := by decide +kernel
theorem dX9_promisesAhead_30 : decode cX9_promisesAhead 30 = .ok (.if_icmp .lt 18, 3) := by decide +kernel
theorem dX9_promisesAhead_33 : decode cX9_promisesAhead 33 = .ok (.aload 5, 2) := by decide +kernel
theorem dX9_promisesAhead_35 : decode cX9_promisesAhead 35 = .ok (.getfield 106, 3) := by decide +kernel
theorem dX9_promisesAhead_38 : decode cX9_promisesAhead 38 = .ok (.iload_n 2, 1) := by decide +kernel
theorem dX9_promisesAhead_39 : decode cX9_promisesAhead 39 = .ok (.if_icmp .ne 13, 3) := by decide +kernel
theorem dX9_promisesAhead_42 : decode cX9_promisesAhead 42 = .ok (.iload 4, 2) := by decide +kernel
theorem dX9_promisesAhead_44 : decode cX9_promisesAhead 44 = .ok (.iload_n 1, 1) := by decide +kernel
theorem dX9_promisesAhead_45 : decode cX9_promisesAhead 45 = .ok (.if_icmp .ge 7, 3) := by decide +kernel
theorem dX9_promisesAhead_48 : decode cX9_promisesAhead 48 = .ok (.iconst 1, 1) := by decide +kernel
theorem dX9_promisesAhead_49 : decode cX9_promisesAhead 49 = .ok (.goto 4, 3) := by decide +kernel
theorem dX9_promisesAhead_52 : decode cX9_promisesAhead 52 = .ok (.iconst 0, 1) := by decide +kernel
theorem dX9_promisesAhead_53 : decode cX9_promisesAhead 53 = .ok (.istore 6, 2) := by decide +kernel
theorem dX9_promisesAhead_55 : decode cX9_promisesAhead 55 = .ok (.iload_n 3, 1) := by decide +kernel
theorem dX9_promisesAhead_56 : decode cX9_promisesAhead 56 = .ok (.aload 5, 2) := by decide +kernel
theorem dX9_promisesAhead_58 : decode cX9_promisesAhead 58 = .ok (.invokevirtual 102, 3) := by decide +kernel
theorem dX9_promisesAhead_61 : decode cX9_promisesAhead 61 = .ok (.ifCond .eq 12, 3) := by decide +kernel
theorem dX9_promisesAhead_64 : decode cX9_promisesAhead 64 = .ok (.iload 6, 2) := by decide +kernel
theorem dX9_promisesAhead_66 : decode cX9_promisesAhead 66 = .ok (.ifCond .eq 7, 3) := by decide +kernel
theorem dX9_promisesAhead_69 : decode cX9_promisesAhead 69 = .ok (.iconst 1, 1) := by decide +kernel
theorem dX9_promisesAhead_70 : decode cX9_promisesAhead 70 = .ok (.goto 4, 3) := by decide +kernel
theorem dX9_promisesAhead_73 : decode cX9_promisesAhead 73 = .ok (.iconst 0, 1) := by decide +kernel
theorem dX9_promisesAhead_74 : decode cX9_promisesAhead 74 = .ok (.iadd, 1) := by decide +kernel
theorem dX9_promisesAhead_75 : decode cX9_promisesAhead 75 = .ok (.istore_n 3, 1) := by decide +kernel
theorem dX9_promisesAhead_76 : decode cX9_promisesAhead 76 = .ok (.iinc 4 1, 3) := by decide +kernel
theorem dX9_promisesAhead_79 : decode cX9_promisesAhead 79 = .ok (.goto (-74), 3) := by decide +kernel
theorem dX9_promisesAhead_82 : decode cX9_promisesAhead 82 = .ok (.iload_n 3, 1) := by decide +kernel
theorem dX9_promisesAhead_83 : decode cX9_promisesAhead 83 = .ok (.ireturn, 1) := by decide +kernel
theorem dX9_alikeUpTo_0 : decode cX9_alikeUpTo 0 = .ok (.aload_n 1, 1) := by decide +kernel
theorem dX9_alikeUpTo_1 : decode cX9_alikeUpTo 1 = .ok (.aload_n 2, 1) := by decide +kernel
theorem dX9_alikeUpTo_2 : decode cX9_alikeUpTo 2 = .ok (.if_acmp .ne 8, 3) := by decide +kernel
theorem dX9_alikeUpTo_5 : decode cX9_alikeUpTo 5 = .ok (.aload_n 1, 1) := by decide +kernel
theorem dX9_alikeUpTo_6 : decode cX9_alikeUpTo 6 = .ok (.getfield 69, 3) := by decide +kernel
theorem dX9_alikeUpTo_9 : decode cX9_alikeUpTo 9 = .ok (.ireturn, 1) := by decide +kernel
theorem dX9_alikeUpTo_10 : decode cX9_alikeUpTo 10 = .ok (.aload_n 1, 1) := by decide +kernel
theorem dX9_alikeUpTo_11 : decode cX9_alikeUpTo 11 = .ok (.astore_n 3, 1) := by decide +kernel
theorem dX9_alikeUpTo_12 : decode cX9_alikeUpTo 12 = .ok (.iconst 0, 1) := by decide +kernel
theorem dX9_alikeUpTo_13 : decode cX9_alikeUpTo 13 = .ok (.istore 4, 2) := by decide +kernel
theorem dX9_alikeUpTo_15 : decode cX9_alikeUpTo 15 = .ok (.iload 4, 2) := by decide +kernel
theorem dX9_alikeUpTo_17 : decode cX9_alikeUpTo 17 = .ok (.iconst 4, 1) := by decide +kernel
theorem dX9_alikeUpTo_18 : decode cX9_alikeUpTo 18 = .ok (.if_icmp .ge 24, 3) := by decide +kernel
theorem dX9_alikeUpTo_21 : decode cX9_alikeUpTo 21 = .ok (.aload_n 0, 1) := by decide +kernel
theorem dX9_alikeUpTo_22 : decode cX9_alikeUpTo 22 = .ok (.aload_n 3, 1) := by decide +kernel
theorem dX9_alikeUpTo_23 : decode cX9_alikeUpTo 23 = .ok (.aload_n 2, 1) := by decide +kernel
theorem dX9_alikeUpTo_24 : decode cX9_alikeUpTo 24 = .ok (.invokevirtual 113, 3) := by decide +kernel
theorem dX9_alikeUpTo_27 : decode cX9_alikeUpTo 27 = .ok (.ifCond .ne 15, 3) := by decide +kernel
theorem dX9_alikeUpTo_30 : decode cX9_alikeUpTo 30 = .ok (.aload_n 0, 1) := by decide +kernel
theorem dX9_alikeUpTo_31 : decode cX9_alikeUpTo 31 = .ok (.aload_n 3, 1) := by decide +kernel
theorem dX9_alikeUpTo_32 : decode cX9_alikeUpTo 32 = .ok (.invokevirtual 117, 3) := by decide +kernel
theorem dX9_alikeUpTo_35 : decode cX9_alikeUpTo 35 = .ok (.astore_n 3, 1) := by decide +kernel
theorem dX9_alikeUpTo_36 : decode cX9_alikeUpTo 36 = .ok (.iinc 4 1, 3) := by decide +kernel
theorem dX9_alikeUpTo_39 : decode cX9_alikeUpTo 39 = .ok (.goto (-24), 3) := by decide +kernel
theorem dX9_alikeUpTo_42 : decode cX9_alikeUpTo 42 = .ok (.aload_n 0, 1) := by decide +kernel
theorem dX9_alikeUpTo_43 : decode cX9_alikeUpTo 43 = .ok (.aload_n 1, 1) := by decide +kernel
theorem dX9_alikeUpTo_44 : decode cX9_alikeUpTo 44 = .ok (.aload_n 3, 1) := by decide +kernel
theorem dX9_alikeUpTo_45 : decode cX9_alikeUpTo 45 = .ok (.invokevirtual 121, 3) := by decide +kernel
theorem dX9_alikeUpTo_48 : decode cX9_alikeUpTo 48 = .ok (.aload_n 0, 1) := by decide +kernel
theorem dX9_alikeUpTo_49 : decode cX9_alikeUpTo 49 = .ok (.aload_n 2, 1) := by decide +kernel
theorem dX9_alikeUpTo_50 : decode cX9_alikeUpTo 50 = .ok (.aload_n 3, 1) := by decide +kernel
theorem dX9_alikeUpTo_51 : decode cX9_alikeUpTo 51 = .ok (.invokevirtual 121, 3) := by decide +kernel
theorem dX9_alikeUpTo_54 : decode cX9_alikeUpTo 54 = .ok (.invokestatic 125, 3) := by decide +kernel
theorem dX9_alikeUpTo_57 : decode cX9_alikeUpTo 57 = .ok (.ireturn, 1) := by decide +kernel
theorem dX9_isOnWay_0 : decode cX9_isOnWay 0 = .ok (.aload_n 2, 1) := by decide +kernel
theorem dX9_isOnWay_1 : decode cX9_isOnWay 1 = .ok (.astore_n 3, 1) := by decide +kernel
theorem dX9_isOnWay_2 : decode cX9_isOnWay 2 = .ok (.iconst 0, 1) := by decide +kernel
theorem dX9_isOnWay_3 : decode cX9_isOnWay 3 = .ok (.istore 4, 2) := by decide +kernel
theorem dX9_isOnWay_5 : decode cX9_isOnWay 5 = .ok (.iload 4, 2) := by decide +kernel
theorem dX9_isOnWay_7 : decode cX9_isOnWay 7 = .ok (.iconst 4, 1) := by decide +kernel
theorem dX9_isOnWay_8 : decode cX9_isOnWay 8 = .ok (.if_icmp .ge 20, 3) := by decide +kernel
theorem dX9_isOnWay_11 : decode cX9_isOnWay 11 = .ok (.aload_n 3, 1) := by decide +kernel
theorem dX9_isOnWay_12 : decode cX9_isOnWay 12 = .ok (.aload_n 1, 1) := by decide +kernel
theorem dX9_isOnWay_13 : decode cX9_isOnWay 13 = .ok (.if_acmp .eq 15, 3) := by decide +kernel
theorem dX9_isOnWay_16 : decode cX9_isOnWay 16 = .ok (.aload_n 0, 1) := by decide +kernel
theorem dX9_isOnWay_17 : decode cX9_isOnWay 17 = .ok (.aload_n 3, 1) := by decide +kernel
theorem dX9_isOnWay_18 : decode cX9_isOnWay 18 = .ok (.invokevirtual 117, 3) := by decide +kernel
theorem dX9_isOnWay_21 : decode cX9_isOnWay 21 = .ok (.astore_n 3, 1) := by decide +kernel
theorem dX9_isOnWay_22 : decode cX9_isOnWay 22 = .ok (.iinc 4 1, 3) := by decide +kernel
theorem dX9_isOnWay_25 : decode cX9_isOnWay 25 = .ok (.goto (-20), 3) := by decide +kernel
theorem dX9_isOnWay_28 : decode cX9_isOnWay 28 = .ok (.aload_n 3, 1) := by decide +kernel
theorem dX9_isOnWay_29 : decode cX9_isOnWay 29 = .ok (.aload_n 1, 1) := by decide +kernel
theorem dX9_isOnWay_30 : decode cX9_isOnWay 30 = .ok (.if_acmp .ne 7, 3) := by decide +kernel
theorem dX9_isOnWay_33 : decode cX9_isOnWay 33 = .ok (.iconst 1, 1) := by decide +kernel
theorem dX9_isOnWay_34 : decode cX9_isOnWay 34 = .ok (.goto 4, 3) := by decide +kernel
theorem dX9_isOnWay_37 : decode cX9_isOnWay 37 = .ok (.iconst 0, 1) := by decide +kernel
theorem dX9_isOnWay_38 : decode cX9_isOnWay 38 = .ok (.ireturn, 1) := by decide +kernel
theorem dX9_leastFork_0 : decode cX9_leastFork 0 = .ok (.ldc 101, 2) := by decide +kernel
theorem dX9_leastFork_2 : decode cX9_leastFork 2 = .ok (.istore_n 3, 1) := by decide +kernel
theorem dX9_leastFork_3 : decode cX9_leastFork 3 = .ok (.aload_n 1, 1) := by decide +kernel
theorem dX9_leastFork_4 : decode cX9_leastFork 4 = .ok (.astore 4, 2) := by decide +kernel
theorem dX9_leastFork_6 : decode cX9_leastFork 6 = .ok (.iconst 0, 1) := by decide +kernel
theorem dX9_leastFork_7 : decode cX9_leastFork 7 = .ok (.istore 5, 2) := by decide +kernel
theorem dX9_leastFork_9 : decode cX9_leastFork 9 = .ok (.iload 5, 2) := by decide +kernel
theorem dX9_leastFork_11 : decode cX9_leastFork 11 = .ok (.iconst 4, 1) := by decide +kernel
theorem dX9_leastFork_12 : decode cX9_leastFork 12 = .ok (.if_icmp .ge 33, 3) := by decide +kernel
theorem dX9_leastFork_15 : decode cX9_leastFork 15 = .ok (.aload 4, 2) := by decide +kernel
theorem dX9_leastFork_17 : decode cX9_leastFork 17 = .ok (.aload_n 2, 1) := by decide +kernel
theorem dX9_leastFork_18 : decode cX9_leastFork 18 = .ok (.if_acmp .eq 27, 3) := by decide +kernel
theorem dX9_leastFork_21 : decode cX9_leastFork 21 = .ok (.iload_n 3, 1) := by decide +kernel
theorem dX9_leastFork_22 : decode cX9_leastFork 22 = .ok (.aload 4, 2) := by decide +kernel
theorem dX9_leastFork_24 : decode cX9_leastFork 24 = .ok (.getfield 130, 3) := by decide +kernel
theorem dX9_leastFork_27 : decode cX9_leastFork 27 = .ok (.invokestatic 125, 3) := by decide +kernel
theorem dX9_leastFork_30 : decode cX9_leastFork 30 = .ok (.istore_n 3, 1) := by decide +kernel
theorem dX9_leastFork_31 : decode cX9_leastFork 31 = .ok (.aload_n 0, 1) := by decide +kernel
theorem dX9_leastFork_32 : decode cX9_leastFork 32 = .ok (.aload 4, 2) := by decide +kernel
theorem dX9_leastFork_34 : decode cX9_leastFork 34 = .ok (.invokevirtual 117, 3) := by decide +kernel
theorem dX9_leastFork_37 : decode cX9_leastFork 37 = .ok (.astore 4, 2) := by decide +kernel
theorem dX9_leastFork_39 : decode cX9_leastFork 39 = .ok (.iinc 5 1, 3) := by decide +kernel
theorem dX9_leastFork_42 : decode cX9_leastFork 42 = .ok (.goto (-33), 3) := by decide +kernel
theorem dX9_leastFork_45 : decode cX9_leastFork 45 = .ok (.iload_n 3, 1) := by decide +kernel
theorem dX9_leastFork_46 : decode cX9_leastFork 46 = .ok (.ireturn, 1) := by decide +kernel
theorem dX9_holderOf_0 : decode cX9_holderOf 0 = .ok (.aload_n 1, 1) := by decide +kernel
theorem dX9_holderOf_1 : decode cX9_holderOf 1 = .ok (.getfield 72, 3) := by decide +kernel
theorem dX9_holderOf_4 : decode cX9_holderOf 4 = .ok (.aload_n 1, 1) := by decide +kernel
theorem dX9_holderOf_5 : decode cX9_holderOf 5 = .ok (.getfield 69, 3) := by decide +kernel
theorem dX9_holderOf_8 : decode cX9_holderOf 8 = .ok (.if_icmp .lt 5, 3) := by decide +kernel
theorem dX9_holderOf_11 : decode cX9_holderOf 11 = .ok (.iconst (-1), 1) := by decide +kernel
theorem dX9_holderOf_12 : decode cX9_holderOf 12 = .ok (.ireturn, 1) := by decide +kernel
theorem dX9_holderOf_13 : decode cX9_holderOf 13 = .ok (.aload_n 2, 1) := by decide +kernel
theorem dX9_holderOf_14 : decode cX9_holderOf 14 = .ok (.iconst 3, 1) := by decide +kernel
theorem dX9_holderOf_15 : decode cX9_holderOf 15 = .ok (.invokevirtual 133, 3) := by decide +kernel
theorem dX9_holderOf_18 : decode cX9_holderOf 18 = .ok (.istore_n 3, 1) := by decide +kernel
theorem dX9_holderOf_19 : decode cX9_holderOf 19 = .ok (.iconst 0, 1) := by decide +kernel
theorem dX9_holderOf_20 : decode cX9_holderOf 20 = .ok (.istore 4, 2) := by decide +kernel
theorem dX9_holderOf_22 : decode cX9_holderOf 22 = .ok (.iload 4, 2) := by decide +kernel
theorem dX9_holderOf_24 : decode cX9_holderOf 24 = .ok (.aload_n 0, 1) := by decide +kernel
theorem dX9_holderOf_25 : decode cX9_holderOf 25 = .ok (.getfield 23, 3) := by decide +kernel
theorem dX9_holderOf_28 : decode cX9_holderOf 28 = .ok (.arraylength, 1) := by decide +kernel
theorem dX9_holderOf_29 : decode cX9_holderOf 29 = .ok (.if_icmp .ge 67, 3) := by decide +kernel
theorem dX9_holderOf_32 : decode cX9_holderOf 32 = .ok (.aload_n 0, 1) := by decide +kernel
theorem dX9_holderOf_33 : decode cX9_holderOf 33 = .ok (.getfield 23, 3) := by decide +kernel
theorem dX9_holderOf_36 : decode cX9_holderOf 36 = .ok (.iload 4, 2) := by decide +kernel
theorem dX9_holderOf_38 : decode cX9_holderOf 38 = .ok (.aaload, 1) := by decide +kernel
theorem dX9_holderOf_39 : decode cX9_holderOf 39 = .ok (.astore 5, 2) := by decide +kernel
theorem dX9_holderOf_41 : decode cX9_holderOf 41 = .ok (.aload 5, 2) := by decide +kernel
theorem dX9_holderOf_43 : decode cX9_holderOf 43 = .ok (.aload_n 1, 1) := by decide +kernel
theorem dX9_holderOf_44 : decode cX9_holderOf 44 = .ok (.invokevirtual 94, 3) := by decide +kernel
theorem dX9_holderOf_47 : decode cX9_holderOf 47 = .ok (.ifCond .eq 19, 3) := by decide +kernel
theorem dX9_holderOf_50 : decode cX9_holderOf 50 = .ok (.aload 5, 2) := by decide +kernel
theorem dX9_holderOf_52 : decode cX9_holderOf 52 = .ok (.getfield 98, 3) := by decide +kernel
theorem dX9_holderOf_55 : decode cX9_holderOf 55 = .ok (.aload_n 1, 1) := by decide +kernel
theorem dX9_holderOf_56 : decode cX9_holderOf 56 = .ok (.getfield 72, 3) := by decide +kernel
theorem dX9_holderOf_59 : decode cX9_holderOf 59 = .ok (.if_icmp .gt 7, 3) := by decide +kernel
theorem dX9_holderOf_62 : decode cX9_holderOf 62 = .ok (.iconst 1, 1) := by decide +kernel
theorem dX9_holderOf_63 : decode cX9_holderOf 63 = .ok (.goto 4, 3) := by decide +kernel
theorem dX9_holderOf_66 : decode cX9_holderOf 66 = .ok (.iconst 0, 1) := by decide +kernel
theorem dX9_holderOf_67 : decode cX9_holderOf 67 = .ok (.istore 6, 2) := by decide +kernel
theorem dX9_holderOf_69 : decode cX9_holderOf 69 = .ok (.iload 6, 2) := by decide +kernel
theorem dX9_holderOf_71 : decode cX9_holderOf 71 = .ok (.ifCond .eq 19, 3) := by decide +kernel
theorem dX9_holderOf_74 : decode cX9_holderOf 74 = .ok (.aload 5, 2) := by decide +kernel
theorem dX9_holderOf_76 : decode cX9_holderOf 76 = .ok (.aload_n 0, 1) := by decide +kernel
theorem dX9_holderOf_77 : decode cX9_holderOf 77 = .ok (.getfield 35, 3) := by decide +kernel
theorem dX9_holderOf_80 : decode cX9_holderOf 80 = .ok (.iload_n 3, 1) := by decide +kernel
theorem dX9_holderOf_81 : decode cX9_holderOf 81 = .ok (.invokevirtual 139, 3) := by decide +kernel
theorem dX9_holderOf_84 : decode cX9_holderOf 84 = .ok (.ifCond .eq 6, 3) := by decide +kernel
theorem dX9_holderOf_87 : decode cX9_holderOf 87 = .ok (.iload 4, 2) := by decide +kernel
theorem dX9_holderOf_89 : decode cX9_holderOf 89 = .ok (.ireturn, 1) := by decide +kernel
theorem dX9_holderOf_90 : decode cX9_holderOf 90 = .ok (.iinc 4 1, 3) := by decide +kernel
theorem dX9_holderOf_93 : decode cX9_holderOf 93 = .ok (.goto (-71), 3) := by decide +kernel
theorem dX9_holderOf_96 : decode cX9_holderOf 96 = .ok (.iconst (-1), 1) := by decide +kernel
theorem dX9_holderOf_97 : decode cX9_holderOf 97 = .ok (.ireturn, 1) := by decide +kernel
theorem dX9_causeFor_0 : decode cX9_causeFor 0 = .ok (.aload_n 1, 1) := by decide +kernel
theorem dX9_causeFor_1 : decode cX9_causeFor 1 = .ok (.aload_n 1, 1) := by decide +kernel
theorem dX9_causeFor_2 : decode cX9_causeFor 2 = .ok (.getfield 72, 3) := by decide +kernel
theorem dX9_causeFor_5 : decode cX9_causeFor 5 = .ok (.invokevirtual 143, 3) := by decide +kernel
theorem dX9_causeFor_8 : decode cX9_causeFor 8 = .ok (.astore_n 3, 1) := by decide +kernel
theorem dX9_causeFor_9 : decode cX9_causeFor 9 = .ok (.aload_n 3, 1) := by decide +kernel
theorem dX9_causeFor_10 : decode cX9_causeFor 10 = .ok (.ifnonnull 5, 3) := by decide +kernel
theorem dX9_causeFor_13 : decode cX9_causeFor 13 = .ok (.iconst (-1), 1) := by decide +kernel
theorem dX9_causeFor_14 : decode cX9_causeFor 14 = .ok (.ireturn, 1) := by decide +kernel
theorem dX9_causeFor_15 : decode cX9_causeFor 15 = .ok (.aload_n 1, 1) := by decide +kernel
theorem dX9_causeFor_16 : decode cX9_causeFor 16 = .ok (.getfield 75, 3) := by decide +kernel
theorem dX9_causeFor_19 : decode cX9_causeFor 19 = .ok (.aload_n 2, 1) := by decide +kernel
theorem dX9_causeFor_20 : decode cX9_causeFor 20 = .ok (.iconst 1, 1) := by decide +kernel
theorem dX9_causeFor_21 : decode cX9_causeFor 21 = .ok (.invokevirtual 133, 3) := by decide +kernel
theorem dX9_causeFor_24 : decode cX9_causeFor 24 = .ok (.if_icmp .le 5, 3) := by decide +kernel
theorem dX9_causeFor_27 : decode cX9_causeFor 27 = .ok (.iconst 0, 1) := by decide +kernel
theorem dX9_causeFor_28 : decode cX9_causeFor 28 = .ok (.ireturn, 1) := by decide +kernel
theorem dX9_causeFor_29 : decode cX9_causeFor 29 = .ok (.aload_n 2, 1) := by decide +kernel
theorem dX9_causeFor_30 : decode cX9_causeFor 30 = .ok (.iconst 2, 1) := by decide +kernel
theorem dX9_causeFor_31 : decode cX9_causeFor 31 = .ok (.invokevirtual 133, 3) := by decide +kernel
theorem dX9_causeFor_34 : decode cX9_causeFor 34 = .ok (.istore 4, 2) := by decide +kernel
theorem dX9_causeFor_36 : decode cX9_causeFor 36 = .ok (.aload_n 0, 1) := by decide +kernel
theorem dX9_causeFor_37 : decode cX9_causeFor 37 = .ok (.aload_n 1, 1) := by decide +kernel
theorem dX9_causeFor_38 : decode cX9_causeFor 38 = .ok (.aload_n 2, 1) := by decide +kernel
theorem dX9_causeFor_39 : decode cX9_causeFor 39 = .ok (.invokevirtual 147, 3) := by decide +kernel
theorem dX9_causeFor_42 : decode cX9_causeFor 42 = .ok (.iconst (-1), 1) := by decide +kernel
theorem dX9_causeFor_43 : decode cX9_causeFor 43 = .ok (.if_icmp .ne 7, 3) := by decide +kernel
theorem dX9_causeFor_46 : decode cX9_causeFor 46 = .ok (.iconst 1, 1) := by decide +kernel
theorem dX9_causeFor_47 : decode cX9_causeFor 47 = .ok (.goto 4, 3) := by decide +kernel
theorem dX9_causeFor_50 : decode cX9_causeFor 50 = .ok (.iconst 0, 1) := by decide +kernel
theorem dX9_causeFor_51 : decode cX9_causeFor 51 = .ok (.istore 5, 2) := by decide +kernel
theorem dX9_causeFor_53 : decode cX9_causeFor 53 = .ok (.iload 5, 2) := by decide +kernel
theorem dX9_causeFor_55 : decode cX9_causeFor 55 = .ok (.ifCond .eq 17, 3) := by decide +kernel
theorem dX9_causeFor_58 : decode cX9_causeFor 58 = .ok (.aload_n 1, 1) := by decide +kernel
theorem dX9_causeFor_59 : decode cX9_causeFor 59 = .ok (.getfield 75, 3) := by decide +kernel
theorem dX9_causeFor_62 : decode cX9_causeFor 62 = .ok (.aload_n 2, 1) := by decide +kernel
theorem dX9_causeFor_63 : decode cX9_causeFor 63 = .ok (.iconst 0, 1) := by decide +kernel
theorem dX9_causeFor_64 : decode cX9_causeFor 64 = .ok (.invokevirtual 133, 3) := by decide +kernel
theorem dX9_causeFor_67 : decode cX9_causeFor 67 = .ok (.if_icmp .le 5, 3) := by decide +kernel
theorem dX9_causeFor_70 : decode cX9_causeFor 70 = .ok (.iconst 1, 1) := by decide +kernel
theorem dX9_causeFor_71 : decode cX9_causeFor 71 = .ok (.ireturn, 1) := by decide +kernel
theorem dX9_causeFor_72 : decode cX9_causeFor 72 = .ok (.iload 5, 2) := by decide +kernel
theorem dX9_causeFor_74 : decode cX9_causeFor 74 = .ok (.ifCond .eq 24, 3) := by decide +kernel
theorem dX9_causeFor_77 : decode cX9_causeFor 77 = .ok (.iload 4, 2) := by decide +kernel
theorem dX9_causeFor_79 : decode cX9_causeFor 79 = .ok (.ifCond .le 19, 3) := by decide +kernel
theorem dX9_causeFor_82 : decode cX9_causeFor 82 = .ok (.aload_n 0, 1) := by decide +kernel
theorem dX9_causeFor_83 : decode cX9_causeFor 83 = .ok (.getfield 35, 3) := by decide +kernel
theorem dX9_causeFor_86 : decode cX9_causeFor 86 = .ok (.aload_n 3, 1) := by decide +kernel
theorem dX9_causeFor_87 : decode cX9_causeFor 87 = .ok (.getfield 151, 3) := by decide +kernel
theorem dX9_causeFor_90 : decode cX9_causeFor 90 = .ok (.isub, 1) := by decide +kernel
theorem dX9_causeFor_91 : decode cX9_causeFor 91 = .ok (.iload 4, 2) := by decide +kernel
theorem dX9_causeFor_93 : decode cX9_causeFor 93 = .ok (.if_icmp .le 5, 3) := by decide +kernel
theorem dX9_causeFor_96 : decode cX9_causeFor 96 = .ok (.iconst 2, 1) := by decide +kernel
theorem dX9_causeFor_97 : decode cX9_causeFor 97 = .ok (.ireturn, 1) := by decide +kernel
theorem dX9_causeFor_98 : decode cX9_causeFor 98 = .ok (.aload_n 2, 1) := by decide +kernel
theorem dX9_causeFor_99 : decode cX9_causeFor 99 = .ok (.bipush 6, 2) := by decide +kernel
theorem dX9_causeFor_101 : decode cX9_causeFor 101 = .ok (.invokevirtual 133, 3) := by decide +kernel
theorem dX9_causeFor_104 : decode cX9_causeFor 104 = .ok (.iconst 1, 1) := by decide +kernel
theorem dX9_causeFor_105 : decode cX9_causeFor 105 = .ok (.if_icmp .ne 15, 3) := by decide +kernel
theorem dX9_causeFor_108 : decode cX9_causeFor 108 = .ok (.aload_n 0, 1) := by decide +kernel
theorem dX9_causeFor_109 : decode cX9_causeFor 109 = .ok (.aload_n 1, 1) := by decide +kernel
theorem dX9_causeFor_110 : decode cX9_causeFor 110 = .ok (.invokevirtual 154, 3) := by decide +kernel
theorem dX9_causeFor_113 : decode cX9_causeFor 113 = .ok (.ifCond .eq 7, 3) := by decide +kernel
theorem dX9_causeFor_116 : decode cX9_causeFor 116 = .ok (.iconst 3, 1) := by decide +kernel
theorem dX9_causeFor_117 : decode cX9_causeFor 117 = .ok (.goto 4, 3) := by decide +kernel
theorem dX9_causeFor_120 : decode cX9_causeFor 120 = .ok (.iconst (-1), 1) := by decide +kernel
theorem dX9_causeFor_121 : decode cX9_causeFor 121 = .ok (.ireturn, 1) := by decide +kernel
theorem dX9_isReadByAll_0 : decode cX9_isReadByAll 0 = .ok (.iconst 0, 1) := by decide +kernel
theorem dX9_isReadByAll_1 : decode cX9_isReadByAll 1 = .ok (.istore_n 2, 1) := by decide +kernel
theorem dX9_isReadByAll_2 : decode cX9_isReadByAll 2 = .ok (.aload_n 0, 1) := by decide +kernel
theorem dX9_isReadByAll_3 : decode cX9_isReadByAll 3 = .ok (.getfield 23, 3) := by decide +kernel
theorem dX9_isReadByAll_6 : decode cX9_isReadByAll 6 = .ok (.astore_n 3, 1) := by decide +kernel
theorem dX9_isReadByAll_7 : decode cX9_isReadByAll 7 = .ok (.aload_n 3, 1) := by decide +kernel
theorem dX9_isReadByAll_8 : decode cX9_isReadByAll 8 = .ok (.arraylength, 1) := by decide +kernel
theorem dX9_isReadByAll_9 : decode cX9_isReadByAll 9 = .ok (.istore 4, 2) := by decide +kernel
theorem dX9_isReadByAll_11 : decode cX9_isReadByAll 11 = .ok (.iconst 0, 1) := by decide +kernel
theorem dX9_isReadByAll_12 : decode cX9_isReadByAll 12 = .ok (.istore 5, 2) := by decide +kernel
theorem dX9_isReadByAll_14 : decode cX9_isReadByAll 14 = .ok (.iload 5, 2) := by decide +kernel
theorem dX9_isReadByAll_16 : decode cX9_isReadByAll 16 = .ok (.iload 4, 2) := by decide +kernel
theorem dX9_isReadByAll_18 : decode cX9_isReadByAll 18 = .ok (.if_icmp .ge 40, 3) := by decide +kernel
theorem dX9_isReadByAll_21 : decode cX9_isReadByAll 21 = .ok (.aload_n 3, 1) := by decide +kernel
theorem dX9_isReadByAll_22 : decode cX9_isReadByAll 22 = .ok (.iload 5, 2) := by decide +kernel
theorem dX9_isReadByAll_24 : decode cX9_isReadByAll 24 = .ok (.aaload, 1) := by decide +kernel
theorem dX9_isReadByAll_25 : decode cX9_isReadByAll 25 = .ok (.astore 6, 2) := by decide +kernel
theorem dX9_isReadByAll_27 : decode cX9_isReadByAll 27 = .ok (.aload 6, 2) := by decide +kernel
theorem dX9_isReadByAll_29 : decode cX9_isReadByAll 29 = .ok (.aload_n 1, 1) := by decide +kernel
theorem dX9_isReadByAll_30 : decode cX9_isReadByAll 30 = .ok (.invokevirtual 94, 3) := by decide +kernel
theorem dX9_isReadByAll_33 : decode cX9_isReadByAll 33 = .ok (.ifCond .eq 19, 3) := by decide +kernel
theorem dX9_isReadByAll_36 : decode cX9_isReadByAll 36 = .ok (.iconst 1, 1) := by decide +kernel
theorem dX9_isReadByAll_37 : decode cX9_isReadByAll 37 = .ok (.istore_n 2, 1) := by decide +kernel
theorem dX9_isReadByAll_38 : decode cX9_isReadByAll 38 = .ok (.aload 6, 2) := by decide +kernel
theorem dX9_isReadByAll_40 : decode cX9_isReadByAll 40 = .ok (.getfield 98, 3) := by decide +kernel
theorem dX9_isReadByAll_43 : decode cX9_isReadByAll 43 = .ok (.aload_n 1, 1) := by decide +kernel
theorem dX9_isReadByAll_44 : decode cX9_isReadByAll 44 = .ok (.getfield 72, 3) := by decide +kernel
theorem dX9_isReadByAll_47 : decode cX9_isReadByAll 47 = .ok (.if_icmp .gt 5, 3) := by decide +kernel
theorem dX9_isReadByAll_50 : decode cX9_isReadByAll 50 = .ok (.iconst 0, 1) := by decide +kernel
theorem dX9_isReadByAll_51 : decode cX9_isReadByAll 51 = .ok (.ireturn, 1) := by decide +kernel
theorem dX9_isReadByAll_52 : decode cX9_isReadByAll 52 = .ok (.iinc 5 1, 3) := by decide +kernel
theorem dX9_isReadByAll_55 : decode cX9_isReadByAll 55 = .ok (.goto (-41), 3) := by decide +kernel
theorem dX9_isReadByAll_58 : decode cX9_isReadByAll 58 = .ok (.iload_n 2, 1) := by decide +kernel
theorem dX9_isReadByAll_59 : decode cX9_isReadByAll 59 = .ok (.ireturn, 1) := by decide +kernel
theorem dX9_cutsWith_0 : decode cX9_cutsWith 0 = .ok (.iload_n 1, 1) := by decide +kernel
theorem dX9_cutsWith_1 : decode cX9_cutsWith 1 = .ok (.ifCond .lt 21, 3) := by decide +kernel
theorem dX9_cutsWith_4 : decode cX9_cutsWith 4 = .ok (.iload_n 1, 1) := by decide +kernel
theorem dX9_cutsWith_5 : decode cX9_cutsWith 5 = .ok (.aload_n 0, 1) := by decide +kernel
theorem dX9_cutsWith_6 : decode cX9_cutsWith 6 = .ok (.getfield 9, 3) := by decide +kernel
theorem dX9_cutsWith_9 : decode cX9_cutsWith 9 = .ok (.arraylength, 1) := by decide +kernel
theorem dX9_cutsWith_10 : decode cX9_cutsWith 10 = .ok (.if_icmp .ge 12, 3) := by decide +kernel
theorem dX9_cutsWith_13 : decode cX9_cutsWith 13 = .ok (.aload_n 0, 1) := by decide +kernel
theorem dX9_cutsWith_14 : decode cX9_cutsWith 14 = .ok (.getfield 9, 3) := by decide +kernel
theorem dX9_cutsWith_17 : decode cX9_cutsWith 17 = .ok (.iload_n 1, 1) := by decide +kernel
theorem dX9_cutsWith_18 : decode cX9_cutsWith 18 = .ok (.iaload, 1) := by decide +kernel
theorem dX9_cutsWith_19 : decode cX9_cutsWith 19 = .ok (.goto 4, 3) := by decide +kernel
theorem dX9_cutsWith_22 : decode cX9_cutsWith 22 = .ok (.iconst 0, 1) := by decide +kernel
theorem dX9_cutsWith_23 : decode cX9_cutsWith 23 = .ok (.ireturn, 1) := by decide +kernel
theorem dX9_cutBehind_0 : decode cX9_cutBehind 0 = .ok (.aload_n 1, 1) := by decide +kernel
theorem dX9_cutBehind_1 : decode cX9_cutBehind 1 = .ok (.getfield 157, 3) := by decide +kernel
theorem dX9_cutBehind_4 : decode cX9_cutBehind 4 = .ok (.istore_n 3, 1) := by decide +kernel
theorem dX9_cutBehind_5 : decode cX9_cutBehind 5 = .ok (.aload_n 1, 1) := by decide +kernel
theorem dX9_cutBehind_6 : decode cX9_cutBehind 6 = .ok (.getfield 69, 3) := by decide +kernel
theorem dX9_cutBehind_9 : decode cX9_cutBehind 9 = .ok (.aload_n 1, 1) := by decide +kernel
theorem dX9_cutBehind_10 : decode cX9_cutBehind 10 = .ok (.getfield 72, 3) := by decide +kernel
theorem dX9_cutBehind_13 : decode cX9_cutBehind 13 = .ok (.isub, 1) := by decide +kernel
theorem dX9_cutBehind_14 : decode cX9_cutBehind 14 = .ok (.istore 4, 2) := by decide +kernel
theorem dX9_cutBehind_16 : decode cX9_cutBehind 16 = .ok (.iload 4, 2) := by decide +kernel
theorem dX9_cutBehind_18 : decode cX9_cutBehind 18 = .ok (.ifCond .le 51, 3) := by decide +kernel
theorem dX9_cutBehind_21 : decode cX9_cutBehind 21 = .ok (.aload_n 0, 1) := by decide +kernel
theorem dX9_cutBehind_22 : decode cX9_cutBehind 22 = .ok (.aload_n 1, 1) := by decide +kernel
theorem dX9_cutBehind_23 : decode cX9_cutBehind 23 = .ok (.aload_n 2, 1) := by decide +kernel
theorem dX9_cutBehind_24 : decode cX9_cutBehind 24 = .ok (.invokevirtual 159, 3) := by decide +kernel
theorem dX9_cutBehind_27 : decode cX9_cutBehind 27 = .ok (.istore 5, 2) := by decide +kernel
theorem dX9_cutBehind_29 : decode cX9_cutBehind 29 = .ok (.iload 5, 2) := by decide +kernel
theorem dX9_cutBehind_31 : decode cX9_cutBehind 31 = .ok (.ifCond .lt 38, 3) := by decide +kernel
theorem dX9_cutBehind_34 : decode cX9_cutBehind 34 = .ok (.iload 5, 2) := by decide +kernel
theorem dX9_cutBehind_36 : decode cX9_cutBehind 36 = .ok (.aload_n 0, 1) := by decide +kernel
theorem dX9_cutBehind_37 : decode cX9_cutBehind 37 = .ok (.getfield 9, 3) := by decide +kernel
theorem dX9_cutBehind_40 : decode cX9_cutBehind 40 = .ok (.arraylength, 1) := by decide +kernel
theorem dX9_cutBehind_41 : decode cX9_cutBehind 41 = .ok (.if_icmp .lt 6, 3) := by decide +kernel
theorem dX9_cutBehind_44 : decode cX9_cutBehind 44 = .ok (.goto 25, 3) := by decide +kernel
theorem dX9_cutBehind_47 : decode cX9_cutBehind 47 = .ok (.aload_n 0, 1) := by decide +kernel
theorem dX9_cutBehind_48 : decode cX9_cutBehind 48 = .ok (.getfield 9, 3) := by decide +kernel
theorem dX9_cutBehind_51 : decode cX9_cutBehind 51 = .ok (.iload 5, 2) := by decide +kernel
theorem dX9_cutBehind_53 : decode cX9_cutBehind 53 = .ok (.dup2, 1) := by decide +kernel
theorem dX9_cutBehind_54 : decode cX9_cutBehind 54 = .ok (.iaload, 1) := by decide +kernel
theorem dX9_cutBehind_55 : decode cX9_cutBehind 55 = .ok (.iconst 1, 1) := by decide +kernel
theorem dX9_cutBehind_56 : decode cX9_cutBehind 56 = .ok (.iadd, 1) := by decide +kernel
theorem dX9_cutBehind_57 : decode cX9_cutBehind 57 = .ok (.iastore, 1) := by decide +kernel
theorem dX9_cutBehind_58 : decode cX9_cutBehind 58 = .ok (.aload_n 0, 1) := by decide +kernel
theorem dX9_cutBehind_59 : decode cX9_cutBehind 59 = .ok (.aload_n 1, 1) := by decide +kernel
theorem dX9_cutBehind_60 : decode cX9_cutBehind 60 = .ok (.invokevirtual 162, 3) := by decide +kernel
theorem dX9_cutBehind_63 : decode cX9_cutBehind 63 = .ok (.iinc 4 (-1), 3) := by decide +kernel
theorem dX9_cutBehind_66 : decode cX9_cutBehind 66 = .ok (.goto (-50), 3) := by decide +kernel
theorem dX9_cutBehind_69 : decode cX9_cutBehind 69 = .ok (.aload_n 1, 1) := by decide +kernel
theorem dX9_cutBehind_70 : decode cX9_cutBehind 70 = .ok (.getfield 157, 3) := by decide +kernel
theorem dX9_cutBehind_73 : decode cX9_cutBehind 73 = .ok (.iload_n 3, 1) := by decide +kernel
theorem dX9_cutBehind_74 : decode cX9_cutBehind 74 = .ok (.isub, 1) := by decide +kernel
theorem dX9_cutBehind_75 : decode cX9_cutBehind 75 = .ok (.ireturn, 1) := by decide +kernel
theorem dX9_cutOne_0 : decode cX9_cutOne 0 = .ok (.aload_n 1, 1) := by decide +kernel
theorem dX9_cutOne_1 : decode cX9_cutOne 1 = .ok (.getfield 72, 3) := by decide +kernel
theorem dX9_cutOne_4 : decode cX9_cutOne 4 = .ok (.istore_n 2, 1) := by decide +kernel
theorem dX9_cutOne_5 : decode cX9_cutOne 5 = .ok (.aload_n 1, 1) := by decide +kernel
theorem dX9_cutOne_6 : decode cX9_cutOne 6 = .ok (.iload_n 2, 1) := by decide +kernel
theorem dX9_cutOne_7 : decode cX9_cutOne 7 = .ok (.invokevirtual 143, 3) := by decide +kernel
theorem dX9_cutOne_10 : decode cX9_cutOne 10 = .ok (.astore_n 3, 1) := by decide +kernel
theorem dX9_cutOne_11 : decode cX9_cutOne 11 = .ok (.aload_n 3, 1) := by decide +kernel
theorem dX9_cutOne_12 : decode cX9_cutOne 12 = .ok (.ifnonnull 4, 3) := by decide +kernel
theorem dX9_cutOne_15 : decode cX9_cutOne 15 = .ok (.return_, 1) := by decide +kernel
theorem dX9_cutOne_16 : decode cX9_cutOne 16 = .ok (.aload_n 1, 1) := by decide +kernel
theorem dX9_cutOne_17 : decode cX9_cutOne 17 = .ok (.aload_n 3, 1) := by decide +kernel
theorem dX9_cutOne_18 : decode cX9_cutOne 18 = .ok (.invokevirtual 165, 3) := by decide +kernel
theorem dX9_cutOne_21 : decode cX9_cutOne 21 = .ok (.aload_n 0, 1) := by decide +kernel
theorem dX9_cutOne_22 : decode cX9_cutOne 22 = .ok (.getfield 23, 3) := by decide +kernel
theorem dX9_cutOne_25 : decode cX9_cutOne 25 = .ok (.astore 4, 2) := by decide +kernel
theorem dX9_cutOne_27 : decode cX9_cutOne 27 = .ok (.aload 4, 2) := by decide +kernel
theorem dX9_cutOne_29 : decode cX9_cutOne 29 = .ok (.arraylength, 1) := by decide +kernel
theorem dX9_cutOne_30 : decode cX9_cutOne 30 = .ok (.istore 5, 2) := by decide +kernel
theorem dX9_cutOne_32 : decode cX9_cutOne 32 = .ok (.iconst 0, 1) := by decide +kernel
theorem dX9_cutOne_33 : decode cX9_cutOne 33 = .ok (.istore 6, 2) := by decide +kernel
theorem dX9_cutOne_35 : decode cX9_cutOne 35 = .ok (.iload 6, 2) := by decide +kernel
theorem dX9_cutOne_37 : decode cX9_cutOne 37 = .ok (.iload 5, 2) := by decide +kernel
theorem dX9_cutOne_39 : decode cX9_cutOne 39 = .ok (.if_icmp .ge 53, 3) := by decide +kernel
theorem dX9_cutOne_42 : decode cX9_cutOne 42 = .ok (.aload 4, 2) := by decide +kernel
theorem dX9_cutOne_44 : decode cX9_cutOne 44 = .ok (.iload 6, 2) := by decide +kernel
theorem dX9_cutOne_46 : decode cX9_cutOne 46 = .ok (.aaload, 1) := by decide +kernel
theorem dX9_cutOne_47 : decode cX9_cutOne 47 = .ok (.astore 7, 2) := by decide +kernel
theorem dX9_cutOne_49 : decode cX9_cutOne 49 = .ok (.aload 7, 2) := by decide +kernel
theorem dX9_cutOne_51 : decode cX9_cutOne 51 = .ok (.aload_n 1, 1) := by decide +kernel
theorem dX9_cutOne_52 : decode cX9_cutOne 52 = .ok (.invokevirtual 94, 3) := by decide +kernel
theorem dX9_cutOne_55 : decode cX9_cutOne 55 = .ok (.ifCond .eq 31, 3) := by decide +kernel
theorem dX9_cutOne_58 : decode cX9_cutOne 58 = .ok (.aload 7, 2) := by decide +kernel
theorem dX9_cutOne_60 : decode cX9_cutOne 60 = .ok (.getfield 98, 3) := by decide +kernel
theorem dX9_cutOne_63 : decode cX9_cutOne 63 = .ok (.iload_n 2, 1) := by decide +kernel
theorem dX9_cutOne_64 : decode cX9_cutOne 64 = .ok (.if_icmp .gt 22, 3) := by decide +kernel
theorem dX9_cutOne_67 : decode cX9_cutOne 67 = .ok (.aload 7, 2) := by decide +kernel
theorem dX9_cutOne_69 : decode cX9_cutOne 69 = .ok (.getfield 81, 3) := by decide +kernel
theorem dX9_cutOne_72 : decode cX9_cutOne 72 = .ok (.aload_n 3, 1) := by decide +kernel
theorem dX9_cutOne_73 : decode cX9_cutOne 73 = .ok (.iload_n 2, 1) := by decide +kernel
theorem dX9_cutOne_74 : decode cX9_cutOne 74 = .ok (.invokevirtual 169, 3) := by decide +kernel
theorem dX9_cutOne_77 : decode cX9_cutOne 77 = .ok (.aload 7, 2) := by decide +kernel
theorem dX9_cutOne_79 : decode cX9_cutOne 79 = .ok (.aload_n 1, 1) := by decide +kernel
theorem dX9_cutOne_80 : decode cX9_cutOne 80 = .ok (.getfield 72, 3) := by decide +kernel
theorem dX9_cutOne_83 : decode cX9_cutOne 83 = .ok (.putfield 98, 3) := by decide +kernel
theorem dX9_cutOne_86 : decode cX9_cutOne 86 = .ok (.iinc 6 1, 3) := by decide +kernel
theorem dX9_cutOne_89 : decode cX9_cutOne 89 = .ok (.goto (-54), 3) := by decide +kernel
theorem dX9_cutOne_92 : decode cX9_cutOne 92 = .ok (.return_, 1) := by decide +kernel
theorem dX9_tick_0 : decode cX9_tick 0 = .ok (.aload_n 0, 1) := by decide +kernel
theorem dX9_tick_1 : decode cX9_tick 1 = .ok (.dup, 1) := by decide +kernel
theorem dX9_tick_2 : decode cX9_tick 2 = .ok (.getfield 35, 3) := by decide +kernel
theorem dX9_tick_5 : decode cX9_tick 5 = .ok (.iconst 1, 1) := by decide +kernel
theorem dX9_tick_6 : decode cX9_tick 6 = .ok (.iadd, 1) := by decide +kernel
theorem dX9_tick_7 : decode cX9_tick 7 = .ok (.putfield 35, 3) := by decide +kernel
theorem dX9_tick_10 : decode cX9_tick 10 = .ok (.aload_n 0, 1) := by decide +kernel
theorem dX9_tick_11 : decode cX9_tick 11 = .ok (.getfield 23, 3) := by decide +kernel
theorem dX9_tick_14 : decode cX9_tick 14 = .ok (.astore_n 2, 1) := by decide +kernel
theorem dX9_tick_15 : decode cX9_tick 15 = .ok (.aload_n 2, 1) := by decide +kernel
theorem dX9_tick_16 : decode cX9_tick 16 = .ok (.arraylength, 1) := by decide +kernel
theorem dX9_tick_17 : decode cX9_tick 17 = .ok (.istore_n 3, 1) := by decide +kernel
theorem dX9_tick_18 : decode cX9_tick 18 = .ok (.iconst 0, 1) := by decide +kernel
theorem dX9_tick_19 : decode cX9_tick 19 = .ok (.istore 4, 2) := by decide +kernel
theorem dX9_tick_21 : decode cX9_tick 21 = .ok (.iload 4, 2) := by decide +kernel
theorem dX9_tick_23 : decode cX9_tick 23 = .ok (.iload_n 3, 1) := by decide +kernel
theorem dX9_tick_24 : decode cX9_tick 24 = .ok (.if_icmp .ge 24, 3) := by decide +kernel
theorem dX9_tick_27 : decode cX9_tick 27 = .ok (.aload_n 2, 1) := by decide +kernel
theorem dX9_tick_28 : decode cX9_tick 28 = .ok (.iload 4, 2) := by decide +kernel
theorem dX9_tick_30 : decode cX9_tick 30 = .ok (.aaload, 1) := by decide +kernel
theorem dX9_tick_31 : decode cX9_tick 31 = .ok (.astore 5, 2) := by decide +kernel
theorem dX9_tick_33 : decode cX9_tick 33 = .ok (.aload 5, 2) := by decide +kernel
theorem dX9_tick_35 : decode cX9_tick 35 = .ok (.aload_n 0, 1) := by decide +kernel
theorem dX9_tick_36 : decode cX9_tick 36 = .ok (.getfield 35, 3) := by decide +kernel
theorem dX9_tick_39 : decode cX9_tick 39 = .ok (.invokevirtual 173, 3) := by decide +kernel
theorem dX9_tick_42 : decode cX9_tick 42 = .ok (.iinc 4 1, 3) := by decide +kernel
theorem dX9_tick_45 : decode cX9_tick 45 = .ok (.goto (-24), 3) := by decide +kernel
theorem dX9_tick_48 : decode cX9_tick 48 = .ok (.iconst 0, 1) := by decide +kernel
theorem dX9_tick_49 : decode cX9_tick 49 = .ok (.istore_n 2, 1) := by decide +kernel
theorem dX9_tick_50 : decode cX9_tick 50 = .ok (.aload_n 0, 1) := by decide +kernel
theorem dX9_tick_51 : decode cX9_tick 51 = .ok (.getfield 17, 3) := by decide +kernel
theorem dX9_tick_54 : decode cX9_tick 54 = .ok (.astore_n 3, 1) := by decide +kernel
theorem dX9_tick_55 : decode cX9_tick 55 = .ok (.aload_n 3, 1) := by decide +kernel
theorem dX9_tick_56 : decode cX9_tick 56 = .ok (.arraylength, 1) := by decide +kernel
theorem dX9_tick_57 : decode cX9_tick 57 = .ok (.istore 4, 2) := by decide +kernel
theorem dX9_tick_59 : decode cX9_tick 59 = .ok (.iconst 0, 1) := by decide +kernel
theorem dX9_tick_60 : decode cX9_tick 60 = .ok (.istore 5, 2) := by decide +kernel
theorem dX9_tick_62 : decode cX9_tick 62 = .ok (.iload 5, 2) := by decide +kernel
theorem dX9_tick_64 : decode cX9_tick 64 = .ok (.iload 4, 2) := by decide +kernel
theorem dX9_tick_66 : decode cX9_tick 66 = .ok (.if_icmp .ge 37, 3) := by decide +kernel
theorem dX9_tick_69 : decode cX9_tick 69 = .ok (.aload_n 3, 1) := by decide +kernel
theorem dX9_tick_70 : decode cX9_tick 70 = .ok (.iload 5, 2) := by decide +kernel
theorem dX9_tick_72 : decode cX9_tick 72 = .ok (.aaload, 1) := by decide +kernel
theorem dX9_tick_73 : decode cX9_tick 73 = .ok (.astore 6, 2) := by decide +kernel
theorem dX9_tick_75 : decode cX9_tick 75 = .ok (.iload_n 2, 1) := by decide +kernel
theorem dX9_tick_76 : decode cX9_tick 76 = .ok (.aload 6, 2) := by decide +kernel
theorem dX9_tick_78 : decode cX9_tick 78 = .ok (.getfield 31, 3) := by decide +kernel
theorem dX9_tick_81 : decode cX9_tick 81 = .ok (.ifCond .eq 13, 3) := by decide +kernel
theorem dX9_tick_84 : decode cX9_tick 84 = .ok (.aload_n 0, 1) := by decide +kernel
theorem dX9_tick_85 : decode cX9_tick 85 = .ok (.aload 6, 2) := by decide +kernel
theorem dX9_tick_87 : decode cX9_tick 87 = .ok (.aload_n 1, 1) := by decide +kernel
theorem dX9_tick_88 : decode cX9_tick 88 = .ok (.invokevirtual 176, 3) := by decide +kernel
theorem dX9_tick_91 : decode cX9_tick 91 = .ok (.goto 4, 3) := by decide +kernel
theorem dX9_tick_94 : decode cX9_tick 94 = .ok (.iconst 0, 1) := by decide +kernel
theorem dX9_tick_95 : decode cX9_tick 95 = .ok (.iadd, 1) := by decide +kernel
theorem dX9_tick_96 : decode cX9_tick 96 = .ok (.istore_n 2, 1) := by decide +kernel
theorem dX9_tick_97 : decode cX9_tick 97 = .ok (.iinc 5 1, 3) := by decide +kernel
theorem dX9_tick_100 : decode cX9_tick 100 = .ok (.goto (-38), 3) := by decide +kernel
theorem dX9_tick_103 : decode cX9_tick 103 = .ok (.iload_n 2, 1) := by decide +kernel
theorem dX9_tick_104 : decode cX9_tick 104 = .ok (.ireturn, 1) := by decide +kernel
theorem dX9_mergeUp_0 : decode cX9_mergeUp 0 = .ok (.aload_n 0, 1) := by decide +kernel
theorem dX9_mergeUp_1 : decode cX9_mergeUp 1 = .ok (.aload_n 1, 1) := by decide +kernel
theorem dX9_mergeUp_2 : decode cX9_mergeUp 2 = .ok (.invokevirtual 117, 3) := by decide +kernel
theorem dX9_mergeUp_5 : decode cX9_mergeUp 5 = .ok (.astore_n 3, 1) := by decide +kernel
theorem dX9_mergeUp_6 : decode cX9_mergeUp 6 = .ok (.aload_n 1, 1) := by decide +kernel
theorem dX9_mergeUp_7 : decode cX9_mergeUp 7 = .ok (.getfield 130, 3) := by decide +kernel
theorem dX9_mergeUp_10 : decode cX9_mergeUp 10 = .ok (.aload_n 1, 1) := by decide +kernel
theorem dX9_mergeUp_11 : decode cX9_mergeUp 11 = .ok (.getfield 72, 3) := by decide +kernel
theorem dX9_mergeUp_14 : decode cX9_mergeUp 14 = .ok (.invokestatic 179, 3) := by decide +kernel
theorem dX9_mergeUp_17 : decode cX9_mergeUp 17 = .ok (.istore 4, 2) := by decide +kernel
theorem dX9_mergeUp_19 : decode cX9_mergeUp 19 = .ok (.aload_n 3, 1) := by decide +kernel
theorem dX9_mergeUp_20 : decode cX9_mergeUp 20 = .ok (.getfield 69, 3) := by decide +kernel
theorem dX9_mergeUp_23 : decode cX9_mergeUp 23 = .ok (.iload 4, 2) := by decide +kernel
theorem dX9_mergeUp_25 : decode cX9_mergeUp 25 = .ok (.isub, 1) := by decide +kernel
theorem dX9_mergeUp_26 : decode cX9_mergeUp 26 = .ok (.istore 5, 2) := by decide +kernel
theorem dX9_mergeUp_28 : decode cX9_mergeUp 28 = .ok (.iload 4, 2) := by decide +kernel
theorem dX9_mergeUp_30 : decode cX9_mergeUp 30 = .ok (.istore 6, 2) := by decide +kernel
theorem dX9_mergeUp_32 : decode cX9_mergeUp 32 = .ok (.iload 6, 2) := by decide +kernel
theorem dX9_mergeUp_34 : decode cX9_mergeUp 34 = .ok (.aload_n 1, 1) := by decide +kernel
theorem dX9_mergeUp_35 : decode cX9_mergeUp 35 = .ok (.getfield 69, 3) := by decide +kernel
theorem dX9_mergeUp_38 : decode cX9_mergeUp 38 = .ok (.if_icmp .ge 19, 3) := by decide +kernel
theorem dX9_mergeUp_41 : decode cX9_mergeUp 41 = .ok (.aload_n 3, 1) := by decide +kernel
theorem dX9_mergeUp_42 : decode cX9_mergeUp 42 = .ok (.aload_n 1, 1) := by decide +kernel
theorem dX9_mergeUp_43 : decode cX9_mergeUp 43 = .ok (.iload 6, 2) := by decide +kernel
theorem dX9_mergeUp_45 : decode cX9_mergeUp 45 = .ok (.invokevirtual 143, 3) := by decide +kernel
theorem dX9_mergeUp_48 : decode cX9_mergeUp 48 = .ok (.invokevirtual 182, 3) := by decide +kernel
theorem dX9_mergeUp_51 : decode cX9_mergeUp 51 = .ok (.iinc 6 1, 3) := by decide +kernel
theorem dX9_mergeUp_54 : decode cX9_mergeUp 54 = .ok (.goto (-22), 3) := by decide +kernel
theorem dX9_mergeUp_57 : decode cX9_mergeUp 57 = .ok (.aload_n 0, 1) := by decide +kernel
theorem dX9_mergeUp_58 : decode cX9_mergeUp 58 = .ok (.getfield 23, 3) := by decide +kernel
theorem dX9_mergeUp_61 : decode cX9_mergeUp 61 = .ok (.astore 6, 2) := by decide +kernel
theorem dX9_mergeUp_63 : decode cX9_mergeUp 63 = .ok (.aload 6, 2) := by decide +kernel
theorem dX9_mergeUp_65 : decode cX9_mergeUp 65 = .ok (.arraylength, 1) := by decide +kernel
theorem dX9_mergeUp_66 : decode cX9_mergeUp 66 = .ok (.istore 7, 2) := by decide +kernel
theorem dX9_mergeUp_68 : decode cX9_mergeUp 68 = .ok (.iconst 0, 1) := by decide +kernel
theorem dX9_mergeUp_69 : decode cX9_mergeUp 69 = .ok (.istore 8, 2) := by decide +kernel
theorem dX9_mergeUp_71 : decode cX9_mergeUp 71 = .ok (.iload 8, 2) := by decide +kernel
theorem dX9_mergeUp_73 : decode cX9_mergeUp 73 = .ok (.iload 7, 2) := by decide +kernel
theorem dX9_mergeUp_75 : decode cX9_mergeUp 75 = .ok (.if_icmp .ge 46, 3) := by decide +kernel
theorem dX9_mergeUp_78 : decode cX9_mergeUp 78 = .ok (.aload 6, 2) := by decide +kernel
theorem dX9_mergeUp_80 : decode cX9_mergeUp 80 = .ok (.iload 8, 2) := by decide +kernel
theorem dX9_mergeUp_82 : decode cX9_mergeUp 82 = .ok (.aaload, 1) := by decide +kernel
theorem dX9_mergeUp_83 : decode cX9_mergeUp 83 = .ok (.astore 9, 2) := by decide +kernel
theorem dX9_mergeUp_85 : decode cX9_mergeUp 85 = .ok (.aload 9, 2) := by decide +kernel
theorem dX9_mergeUp_87 : decode cX9_mergeUp 87 = .ok (.aload_n 1, 1) := by decide +kernel
theorem dX9_mergeUp_88 : decode cX9_mergeUp 88 = .ok (.invokevirtual 94, 3) := by decide +kernel
theorem dX9_mergeUp_91 : decode cX9_mergeUp 91 = .ok (.ifCond .eq 24, 3) := by decide +kernel
theorem dX9_mergeUp_94 : decode cX9_mergeUp 94 = .ok (.aload 9, 2) := by decide +kernel
theorem dX9_mergeUp_96 : decode cX9_mergeUp 96 = .ok (.aload_n 3, 1) := by decide +kernel
theorem dX9_mergeUp_97 : decode cX9_mergeUp 97 = .ok (.getfield 62, 3) := by decide +kernel
theorem dX9_mergeUp_100 : decode cX9_mergeUp 100 = .ok (.putfield 56, 3) := by decide +kernel
theorem dX9_mergeUp_103 : decode cX9_mergeUp 103 = .ok (.aload 9, 2) := by decide +kernel
theorem dX9_mergeUp_105 : decode cX9_mergeUp 105 = .ok (.dup, 1) := by decide +kernel
theorem dX9_mergeUp_106 : decode cX9_mergeUp 106 = .ok (.getfield 98, 3) := by decide +kernel
theorem dX9_mergeUp_109 : decode cX9_mergeUp 109 = .ok (.iload 5, 2) := by decide +kernel
theorem dX9_mergeUp_111 : decode cX9_mergeUp 111 = .ok (.iadd, 1) := by decide +kernel
theorem dX9_mergeUp_112 : decode cX9_mergeUp 112 = .ok (.putfield 98, 3) := by decide +kernel
theorem dX9_mergeUp_115 : decode cX9_mergeUp 115 = .ok (.iinc 8 1, 3) := by decide +kernel
theorem dX9_mergeUp_118 : decode cX9_mergeUp 118 = .ok (.goto (-47), 3) := by decide +kernel
theorem dX9_mergeUp_121 : decode cX9_mergeUp 121 = .ok (.aload_n 1, 1) := by decide +kernel
theorem dX9_mergeUp_122 : decode cX9_mergeUp 122 = .ok (.iconst 0, 1) := by decide +kernel
theorem dX9_mergeUp_123 : decode cX9_mergeUp 123 = .ok (.putfield 31, 3) := by decide +kernel
theorem dX9_mergeUp_126 : decode cX9_mergeUp 126 = .ok (.aload_n 0, 1) := by decide +kernel
theorem dX9_mergeUp_127 : decode cX9_mergeUp 127 = .ok (.aload_n 3, 1) := by decide +kernel
theorem dX9_mergeUp_128 : decode cX9_mergeUp 128 = .ok (.aload_n 2, 1) := by decide +kernel
theorem dX9_mergeUp_129 : decode cX9_mergeUp 129 = .ok (.invokevirtual 176, 3) := by decide +kernel
theorem dX9_mergeUp_132 : decode cX9_mergeUp 132 = .ok (.pop, 1) := by decide +kernel
theorem dX9_mergeUp_133 : decode cX9_mergeUp 133 = .ok (.aload_n 1, 1) := by decide +kernel
theorem dX9_mergeUp_134 : decode cX9_mergeUp 134 = .ok (.getfield 69, 3) := by decide +kernel
theorem dX9_mergeUp_137 : decode cX9_mergeUp 137 = .ok (.iload 4, 2) := by decide +kernel
theorem dX9_mergeUp_139 : decode cX9_mergeUp 139 = .ok (.isub, 1) := by decide +kernel
theorem dX9_mergeUp_140 : decode cX9_mergeUp 140 = .ok (.ireturn, 1) := by decide +kernel
theorem dJ5_init_d00df_0 : decode cJ5_init_d00df 0 = .ok (.aload_n 0, 1) := by decide +kernel
theorem dJ5_init_d00df_1 : decode cJ5_init_d00df 1 = .ok (.invokespecial 3, 3) := by decide +kernel
theorem dJ5_init_d00df_4 : decode cJ5_init_d00df 4 = .ok (.getstatic 18, 3) := by decide +kernel
theorem dJ5_init_d00df_7 : decode cJ5_init_d00df 7 = .ok (.ifCond .eq 18, 3) := by decide +kernel
theorem dJ5_init_d00df_10 : decode cJ5_init_d00df 10 = .ok (.aload_n 0, 1) := by decide +kernel
theorem dJ5_init_d00df_11 : decode cJ5_init_d00df 11 = .ok (.iload_n 1, 1) := by decide +kernel
theorem dJ5_init_d00df_12 : decode cJ5_init_d00df 12 = .ok (.newarray .byte, 2) := by decide +kernel
theorem dJ5_init_d00df_14 : decode cJ5_init_d00df 14 = .ok (.putfield 15, 3) := by decide +kernel
theorem dJ5_init_d00df_17 : decode cJ5_init_d00df 17 = .ok (.aload_n 0, 1) := by decide +kernel
theorem dJ5_init_d00df_18 : decode cJ5_init_d00df 18 = .ok (.iconst 0, 1) := by decide +kernel
theorem dJ5_init_d00df_19 : decode cJ5_init_d00df 19 = .ok (.putfield 22, 3) := by decide +kernel
theorem dJ5_init_d00df_22 : decode cJ5_init_d00df 22 = .ok (.goto 16, 3) := by decide +kernel
theorem dJ5_init_d00df_25 : decode cJ5_init_d00df 25 = .ok (.aload_n 0, 1) := by decide +kernel
theorem dJ5_init_d00df_26 : decode cJ5_init_d00df 26 = .ok (.iload_n 1, 1) := by decide +kernel
theorem dJ5_init_d00df_27 : decode cJ5_init_d00df 27 = .ok (.invokestatic 26, 3) := by decide +kernel
theorem dJ5_init_d00df_30 : decode cJ5_init_d00df 30 = .ok (.putfield 15, 3) := by decide +kernel
theorem dJ5_init_d00df_33 : decode cJ5_init_d00df 33 = .ok (.aload_n 0, 1) := by decide +kernel
theorem dJ5_init_d00df_34 : decode cJ5_init_d00df 34 = .ok (.iconst 1, 1) := by decide +kernel
theorem dJ5_init_d00df_35 : decode cJ5_init_d00df 35 = .ok (.putfield 22, 3) := by decide +kernel
theorem dJ5_init_d00df_38 : decode cJ5_init_d00df 38 = .ok (.return_, 1) := by decide +kernel
theorem dJ5_length_8abf5_0 : decode cJ5_length_8abf5 0 = .ok (.aload_n 0, 1) := by decide +kernel
theorem dJ5_length_8abf5_1 : decode cJ5_length_8abf5 1 = .ok (.getfield 79, 3) := by decide +kernel
theorem dJ5_length_8abf5_4 : decode cJ5_length_8abf5 4 = .ok (.ireturn, 1) := by decide +kernel
theorem dJ5_ensureCapacityInternal_d00df_0 : decode cJ5_ensureCapacityInternal_d00df 0 = .ok (.aload_n 0, 1) := by decide +kernel
theorem dJ5_ensureCapacityInternal_d00df_1 : decode cJ5_ensureCapacityInternal_d00df 1 = .ok (.getfield 15, 3) := by decide +kernel
theorem dJ5_ensureCapacityInternal_d00df_4 : decode cJ5_ensureCapacityInternal_d00df 4 = .ok (.arraylength, 1) := by decide +kernel
theorem dJ5_ensureCapacityInternal_d00df_5 : decode cJ5_ensureCapacityInternal_d00df 5 = .ok (.aload_n 0, 1) := by decide +kernel
theorem dJ5_ensureCapacityInternal_d00df_6 : decode cJ5_ensureCapacityInternal_d00df 6 = .ok (.getfield 22, 3) := by decide +kernel
theorem dJ5_ensureCapacityInternal_d00df_9 : decode cJ5_ensureCapacityInternal_d00df 9 = .ok (.ishr, 1) := by decide +kernel
theorem dJ5_ensureCapacityInternal_d00df_10 : decode cJ5_ensureCapacityInternal_d00df 10 = .ok (.istore_n 2, 1) := by decide +kernel
theorem dJ5_ensureCapacityInternal_d00df_11 : decode cJ5_ensureCapacityInternal_d00df 11 = .ok (.iload_n 1, 1) := by decide +kernel
theorem dJ5_ensureCapacityInternal_d00df_12 : decode cJ5_ensureCapacityInternal_d00df 12 = .ok (.iload_n 2, 1) := by decide +kernel
theorem dJ5_ensureCapacityInternal_d00df_13 : decode cJ5_ensureCapacityInternal_d00df 13 = .ok (.isub, 1) := by decide +kernel
theorem dJ5_ensureCapacityInternal_d00df_14 : decode cJ5_ensureCapacityInternal_d00df 14 = .ok (.ifCond .le 24, 3) := by decide +kernel
theorem dJ5_ensureCapacityInternal_d00df_17 : decode cJ5_ensureCapacityInternal_d00df 17 = .ok (.aload_n 0, 1) := by decide +kernel
theorem dJ5_ensureCapacityInternal_d00df_18 : decode cJ5_ensureCapacityInternal_d00df 18 = .ok (.aload_n 0, 1) := by decide +kernel
theorem dJ5_ensureCapacityInternal_d00df_19 : decode cJ5_ensureCapacityInternal_d00df 19 = .ok (.getfield 15, 3) := by decide +kernel
theorem dJ5_ensureCapacityInternal_d00df_22 : decode cJ5_ensureCapacityInternal_d00df 22 = .ok (.aload_n 0, 1) := by decide +kernel
theorem dJ5_ensureCapacityInternal_d00df_23 : decode cJ5_ensureCapacityInternal_d00df 23 = .ok (.iload_n 1, 1) := by decide +kernel
theorem dJ5_ensureCapacityInternal_d00df_24 : decode cJ5_ensureCapacityInternal_d00df 24 = .ok (.invokevirtual 104, 3) := by decide +kernel
theorem dJ5_ensureCapacityInternal_d00df_27 : decode cJ5_ensureCapacityInternal_d00df 27 = .ok (.aload_n 0, 1) := by decide +kernel
theorem dJ5_ensureCapacityInternal_d00df_28 : decode cJ5_ensureCapacityInternal_d00df 28 = .ok (.getfield 22, 3) := by decide +kernel
theorem dJ5_ensureCapacityInternal_d00df_31 : decode cJ5_ensureCapacityInternal_d00df 31 = .ok (.ishl, 1) := by decide +kernel
theorem dJ5_ensureCapacityInternal_d00df_32 : decode cJ5_ensureCapacityInternal_d00df 32 = .ok (.invokestatic 108, 3) := by decide +kernel
theorem dJ5_ensureCapacityInternal_d00df_35 : decode cJ5_ensureCapacityInternal_d00df 35 = .ok (.putfield 15, 3) := by decide +kernel
theorem dJ5_ensureCapacityInternal_d00df_38 : decode cJ5_ensureCapacityInternal_d00df 38 = .ok (.return_, 1) := by decide +kernel
theorem dJ5_newCapacity_0f7a4_0 : decode cJ5_newCapacity_0f7a4 0 = .ok (.aload_n 0, 1) := by decide +kernel
theorem dJ5_newCapacity_0f7a4_1 : decode cJ5_newCapacity_0f7a4 1 = .ok (.getfield 15, 3) := by decide +kernel
theorem dJ5_newCapacity_0f7a4_4 : decode cJ5_newCapacity_0f7a4 4 = .ok (.arraylength, 1) := by decide +kernel
theorem dJ5_newCapacity_0f7a4_5 : decode cJ5_newCapacity_0f7a4 5 = .ok (.istore_n 2, 1) := by decide +kernel
theorem dJ5_newCapacity_0f7a4_6 : decode cJ5_newCapacity_0f7a4 6 = .ok (.iload_n 1, 1) := by decide +kernel
theorem dJ5_newCapacity_0f7a4_7 : decode cJ5_newCapacity_0f7a4 7 = .ok (.aload_n 0, 1) := by decide +kernel
theorem dJ5_newCapacity_0f7a4_8 : decode cJ5_newCapacity_0f7a4 8 = .ok (.getfield 22, 3) := by decide +kernel
theorem dJ5_newCapacity_0f7a4_11 : decode cJ5_newCapacity_0f7a4 11 = .ok (.ishl, 1) := by decide +kernel
theorem dJ5_newCapacity_0f7a4_12 : decode cJ5_newCapacity_0f7a4 12 = .ok (.istore_n 3, 1) := by decide +kernel
theorem dJ5_newCapacity_0f7a4_13 : decode cJ5_newCapacity_0f7a4 13 = .ok (.iload_n 3, 1) := by decide +kernel
theorem dJ5_newCapacity_0f7a4_14 : decode cJ5_newCapacity_0f7a4 14 = .ok (.iload_n 2, 1) := by decide +kernel
theorem dJ5_newCapacity_0f7a4_15 : decode cJ5_newCapacity_0f7a4 15 = .ok (.isub, 1) := by decide +kernel
theorem dJ5_newCapacity_0f7a4_16 : decode cJ5_newCapacity_0f7a4 16 = .ok (.istore 4, 2) := by decide +kernel
theorem dJ5_newCapacity_0f7a4_18 : decode cJ5_newCapacity_0f7a4 18 = .ok (.iload_n 2, 1) := by decide +kernel
theorem dJ5_newCapacity_0f7a4_19 : decode cJ5_newCapacity_0f7a4 19 = .ok (.iload 4, 2) := by decide +kernel
theorem dJ5_newCapacity_0f7a4_21 : decode cJ5_newCapacity_0f7a4 21 = .ok (.iload_n 2, 1) := by decide +kernel
theorem dJ5_newCapacity_0f7a4_22 : decode cJ5_newCapacity_0f7a4 22 = .ok (.iconst 2, 1) := by decide +kernel
theorem dJ5_newCapacity_0f7a4_23 : decode cJ5_newCapacity_0f7a4 23 = .ok (.aload_n 0, 1) := by decide +kernel
theorem dJ5_newCapacity_0f7a4_24 : decode cJ5_newCapacity_0f7a4 24 = .ok (.getfield 22, 3) := by decide +kernel
theorem dJ5_newCapacity_0f7a4_27 : decode cJ5_newCapacity_0f7a4 27 = .ok (.ishl, 1) := by decide +kernel
theorem dJ5_newCapacity_0f7a4_28 : decode cJ5_newCapacity_0f7a4 28 = .ok (.iadd, 1) := by decide +kernel
theorem dJ5_newCapacity_0f7a4_29 : decode cJ5_newCapacity_0f7a4 29 = .ok (.invokestatic 114, 3) := by decide +kernel
theorem dJ5_newCapacity_0f7a4_32 : decode cJ5_newCapacity_0f7a4 32 = .ok (.istore 5, 2) := by decide +kernel
theorem dJ5_newCapacity_0f7a4_34 : decode cJ5_newCapacity_0f7a4 34 = .ok (.iload 5, 2) := by decide +kernel
theorem dJ5_newCapacity_0f7a4_36 : decode cJ5_newCapacity_0f7a4 36 = .ok (.ldc 39, 2) := by decide +kernel
theorem dJ5_newCapacity_0f7a4_38 : decode cJ5_newCapacity_0f7a4 38 = .ok (.if_icmp .ne 13, 3) := by decide +kernel
theorem dJ5_newCapacity_0f7a4_41 : decode cJ5_newCapacity_0f7a4 41 = .ok (.new 120, 3) := by decide +kernel
theorem dJ5_newCapacity_0f7a4_44 : decode cJ5_newCapacity_0f7a4 44 = .ok (.dup, 1) := by decide +kernel
theorem dJ5_newCapacity_0f7a4_45 : decode cJ5_newCapacity_0f7a4 45 = .ok (.ldc 122, 2) := by decide +kernel
theorem dJ5_newCapacity_0f7a4_47 : decode cJ5_newCapacity_0f7a4 47 = .ok (.invokespecial 124, 3) := by decide +kernel
theorem dJ5_newCapacity_0f7a4_50 : decode cJ5_newCapacity_0f7a4 50 = .ok (.athrow, 1) := by decide +kernel
theorem dJ5_newCapacity_0f7a4_51 : decode cJ5_newCapacity_0f7a4 51 = .ok (.iload 5, 2) := by decide +kernel
theorem dJ5_newCapacity_0f7a4_53 : decode cJ5_newCapacity_0f7a4 53 = .ok (.aload_n 0, 1) := by decide +kernel
theorem dJ5_newCapacity_0f7a4_54 : decode cJ5_newCapacity_0f7a4 54 = .ok (.getfield 22, 3) := by decide +kernel
theorem dJ5_newCapacity_0f7a4_57 : decode cJ5_newCapacity_0f7a4 57 = .ok (.ishr, 1) := by decide +kernel
theorem dJ5_newCapacity_0f7a4_58 : decode cJ5_newCapacity_0f7a4 58 = .ok (.ireturn, 1) := by decide +kernel
theorem dJ5_inflate_da8c8_0 : decode cJ5_inflate_da8c8 0 = .ok (.aload_n 0, 1) := by decide +kernel
theorem dJ5_inflate_da8c8_1 : decode cJ5_inflate_da8c8 1 = .ok (.invokevirtual 83, 3) := by decide +kernel
theorem dJ5_inflate_da8c8_4 : decode cJ5_inflate_da8c8 4 = .ok (.ifCond .ne 4, 3) := by decide +kernel
theorem dJ5_inflate_da8c8_7 : decode cJ5_inflate_da8c8 7 = .ok (.return_, 1) := by decide +kernel
theorem dJ5_inflate_da8c8_8 : decode cJ5_inflate_da8c8 8 = .ok (.aload_n 0, 1) := by decide +kernel
theorem dJ5_inflate_da8c8_9 : decode cJ5_inflate_da8c8 9 = .ok (.getfield 15, 3) := by decide +kernel
theorem dJ5_inflate_da8c8_12 : decode cJ5_inflate_da8c8 12 = .ok (.arraylength, 1) := by decide +kernel
theorem dJ5_inflate_da8c8_13 : decode cJ5_inflate_da8c8 13 = .ok (.invokestatic 26, 3) := by decide +kernel
theorem dJ5_inflate_da8c8_16 : decode cJ5_inflate_da8c8 16 = .ok (.astore_n 1, 1) := by decide +kernel
theorem dJ5_inflate_da8c8_17 : decode cJ5_inflate_da8c8 17 = .ok (.aload_n 0, 1) := by decide +kernel
theorem dJ5_inflate_da8c8_18 : decode cJ5_inflate_da8c8 18 = .ok (.getfield 15, 3) := by decide +kernel
theorem dJ5_inflate_da8c8_21 : decode cJ5_inflate_da8c8 21 = .ok (.iconst 0, 1) := by decide +kernel
theorem dJ5_inflate_da8c8_22 : decode cJ5_inflate_da8c8 22 = .ok (.aload_n 1, 1) := by decide +kernel
theorem dJ5_inflate_da8c8_23 : decode cJ5_inflate_da8c8 23 = .ok (.iconst 0, 1) := by decide +kernel
theorem dJ5_inflate_da8c8_24 : decode cJ5_inflate_da8c8 24 = .ok (.aload_n 0, 1) := by decide +kernel
theorem dJ5_inflate_da8c8_25 : decode cJ5_inflate_da8c8 25 = .ok (.getfield 79, 3) := by decide +kernel
theorem dJ5_inflate_da8c8_28 : decode cJ5_inflate_da8c8 28 = .ok (.invokestatic 125, 3) := by decide +kernel
theorem dJ5_inflate_da8c8_31 : decode cJ5_inflate_da8c8 31 = .ok (.aload_n 0, 1) := by decide +kernel
theorem dJ5_inflate_da8c8_32 : decode cJ5_inflate_da8c8 32 = .ok (.aload_n 1, 1) := by decide +kernel
theorem dJ5_inflate_da8c8_33 : decode cJ5_inflate_da8c8 33 = .ok (.putfield 15, 3) := by decide +kernel
theorem dJ5_inflate_da8c8_36 : decode cJ5_inflate_da8c8 36 = .ok (.aload_n 0, 1) := by decide +kernel
theorem dJ5_inflate_da8c8_37 : decode cJ5_inflate_da8c8 37 = .ok (.iconst 1, 1) := by decide +kernel
theorem dJ5_inflate_da8c8_38 : decode cJ5_inflate_da8c8 38 = .ok (.putfield 22, 3) := by decide +kernel
theorem dJ5_inflate_da8c8_41 : decode cJ5_inflate_da8c8 41 = .ok (.return_, 1) := by decide +kernel
theorem dJ5_setLength_d00df_0 : decode cJ5_setLength_d00df 0 = .ok (.iload_n 1, 1) := by decide +kernel
theorem dJ5_setLength_d00df_1 : decode cJ5_setLength_d00df 1 = .ok (.ifCond .ge 12, 3) := by decide +kernel
theorem dJ5_setLength_d00df_4 : decode cJ5_setLength_d00df 4 = .ok (.new 129, 3) := by decide +kernel
theorem dJ5_setLength_d00df_7 : decode cJ5_setLength_d00df 7 = .ok (.dup, 1) := by decide +kernel
theorem dJ5_setLength_d00df_8 : decode cJ5_setLength_d00df 8 = .ok (.iload_n 1, 1) := by decide +kernel
theorem dJ5_setLength_d00df_9 : decode cJ5_setLength_d00df 9 = .ok (.invokespecial 131, 3) := by decide +kernel
theorem dJ5_setLength_d00df_12 : decode cJ5_setLength_d00df 12 = .ok (.athrow, 1) := by decide +kernel
theorem dJ5_setLength_d00df_13 : decode cJ5_setLength_d00df 13 = .ok (.aload_n 0, 1) := by decide +kernel
theorem dJ5_setLength_d00df_14 : decode cJ5_setLength_d00df 14 = .ok (.iload_n 1, 1) := by decide +kernel
theorem dJ5_setLength_d00df_15 : decode cJ5_setLength_d00df 15 = .ok (.invokevirtual 100, 3) := by decide +kernel
theorem dJ5_setLength_d00df_18 : decode cJ5_setLength_d00df 18 = .ok (.aload_n 0, 1) := by decide +kernel
theorem dJ5_setLength_d00df_19 : decode cJ5_setLength_d00df 19 = .ok (.getfield 79, 3) := by decide +kernel
theorem dJ5_setLength_d00df_22 : decode cJ5_setLength_d00df 22 = .ok (.iload_n 1, 1) := by decide +kernel
theorem dJ5_setLength_d00df_23 : decode cJ5_setLength_d00df 23 = .ok (.if_icmp .ge 40, 3) := by decide +kernel
theorem dJ5_setLength_d00df_26 : decode cJ5_setLength_d00df 26 = .ok (.aload_n 0, 1) := by decide +kernel
theorem dJ5_setLength_d00df_27 : decode cJ5_setLength_d00df 27 = .ok (.invokevirtual 83, 3) := by decide +kernel
theorem dJ5_setLength_d00df_30 : decode cJ5_setLength_d00df 30 = .ok (.ifCond .eq 18, 3) := by decide +kernel
theorem dJ5_setLength_d00df_33 : decode cJ5_setLength_d00df 33 = .ok (.aload_n 0, 1) := by decide +kernel
theorem dJ5_setLength_d00df_34 : decode cJ5_setLength_d00df 34 = .ok (.getfield 15, 3) := by decide +kernel
theorem dJ5_setLength_d00df_37 : decode cJ5_setLength_d00df 37 = .ok (.aload_n 0, 1) := by decide +kernel
theorem dJ5_setLength_d00df_38 : decode cJ5_setLength_d00df 38 = .ok (.getfield 79, 3) := by decide +kernel
theorem dJ5_setLength_d00df_41 : decode cJ5_setLength_d00df 41 = .ok (.iload_n 1, 1) := by decide +kernel
theorem dJ5_setLength_d00df_42 : decode cJ5_setLength_d00df 42 = .ok (.invokestatic 133, 3) := by decide +kernel
theorem dJ5_setLength_d00df_45 : decode cJ5_setLength_d00df 45 = .ok (.goto 31, 3) := by decide +kernel
theorem dJ5_setLength_d00df_48 : decode cJ5_setLength_d00df 48 = .ok (.aload_n 0, 1) := by decide +kernel
theorem dJ5_setLength_d00df_49 : decode cJ5_setLength_d00df 49 = .ok (.getfield 15, 3) := by decide +kernel
theorem dJ5_setLength_d00df_52 : decode cJ5_setLength_d00df 52 = .ok (.aload_n 0, 1) := by decide +kernel
theorem dJ5_setLength_d00df_53 : decode cJ5_setLength_d00df 53 = .ok (.getfield 79, 3) := by decide +kernel
theorem dJ5_setLength_d00df_56 : decode cJ5_setLength_d00df 56 = .ok (.iload_n 1, 1) := by decide +kernel
theorem dJ5_setLength_d00df_57 : decode cJ5_setLength_d00df 57 = .ok (.invokestatic 137, 3) := by decide +kernel
theorem dJ5_setLength_d00df_60 : decode cJ5_setLength_d00df 60 = .ok (.goto 16, 3) := by decide +kernel
theorem dJ5_setLength_d00df_63 : decode cJ5_setLength_d00df 63 = .ok (.aload_n 0, 1) := by decide +kernel
theorem dJ5_setLength_d00df_64 : decode cJ5_setLength_d00df 64 = .ok (.getfield 79, 3) := by decide +kernel
theorem dJ5_setLength_d00df_67 : decode cJ5_setLength_d00df 67 = .ok (.iload_n 1, 1) := by decide +kernel
theorem dJ5_setLength_d00df_68 : decode cJ5_setLength_d00df 68 = .ok (.if_icmp .le 8, 3) := by decide +kernel
theorem dJ5_setLength_d00df_71 : decode cJ5_setLength_d00df 71 = .ok (.aload_n 0, 1) := by decide +kernel
theorem dJ5_setLength_d00df_72 : decode cJ5_setLength_d00df 72 = .ok (.iconst 1, 1) := by decide +kernel
theorem dJ5_setLength_d00df_73 : decode cJ5_setLength_d00df 73 = .ok (.putfield 73, 3) := by decide +kernel
theorem dJ5_setLength_d00df_76 : decode cJ5_setLength_d00df 76 = .ok (.aload_n 0, 1) := by decide +kernel
theorem dJ5_setLength_d00df_77 : decode cJ5_setLength_d00df 77 = .ok (.iload_n 1, 1) := by decide +kernel
theorem dJ5_setLength_d00df_78 : decode cJ5_setLength_d00df 78 = .ok (.putfield 79, 3) := by decide +kernel
theorem dJ5_setLength_d00df_81 : decode cJ5_setLength_d00df 81 = .ok (.return_, 1) := by decide +kernel
theorem dJ5_charAt_5068e_0 : decode cJ5_charAt_5068e 0 = .ok (.aload_n 0, 1) := by decide +kernel
theorem dJ5_charAt_5068e_1 : decode cJ5_charAt_5068e 1 = .ok (.getfield 22, 3) := by decide +kernel
theorem dJ5_charAt_5068e_4 : decode cJ5_charAt_5068e 4 = .ok (.istore_n 2, 1) := by decide +kernel
theorem dJ5_charAt_5068e_5 : decode cJ5_charAt_5068e 5 = .ok (.aload_n 0, 1) := by decide +kernel
theorem dJ5_charAt_5068e_6 : decode cJ5_charAt_5068e 6 = .ok (.getfield 15, 3) := by decide +kernel
theorem dJ5_charAt_5068e_9 : decode cJ5_charAt_5068e 9 = .ok (.astore_n 3, 1) := by decide +kernel
theorem dJ5_charAt_5068e_10 : decode cJ5_charAt_5068e 10 = .ok (.aload_n 0, 1) := by decide +kernel
theorem dJ5_charAt_5068e_11 : decode cJ5_charAt_5068e 11 = .ok (.getfield 79, 3) := by decide +kernel
theorem dJ5_charAt_5068e_14 : decode cJ5_charAt_5068e 14 = .ok (.aload_n 3, 1) := by decide +kernel
theorem dJ5_charAt_5068e_15 : decode cJ5_charAt_5068e 15 = .ok (.arraylength, 1) := by decide +kernel
theorem dJ5_charAt_5068e_16 : decode cJ5_charAt_5068e 16 = .ok (.iload_n 2, 1) := by decide +kernel
theorem dJ5_charAt_5068e_17 : decode cJ5_charAt_5068e 17 = .ok (.ishr, 1) := by decide +kernel
theorem dJ5_charAt_5068e_18 : decode cJ5_charAt_5068e 18 = .ok (.invokestatic 138, 3) := by decide +kernel
theorem dJ5_charAt_5068e_21 : decode cJ5_charAt_5068e 21 = .ok (.istore 4, 2) := by decide +kernel
theorem dJ5_charAt_5068e_23 : decode cJ5_charAt_5068e 23 = .ok (.iload_n 1, 1) := by decide +kernel
theorem dJ5_charAt_5068e_24 : decode cJ5_charAt_5068e 24 = .ok (.iload 4, 2) := by decide +kernel
theorem dJ5_charAt_5068e_26 : decode cJ5_charAt_5068e 26 = .ok (.invokestatic 144, 3) := by decide +kernel
theorem dJ5_charAt_5068e_29 : decode cJ5_charAt_5068e 29 = .ok (.iload_n 2, 1) := by decide +kernel
theorem dJ5_charAt_5068e_30 : decode cJ5_charAt_5068e 30 = .ok (.ifCond .ne 12, 3) := by decide +kernel
theorem dJ5_charAt_5068e_33 : decode cJ5_charAt_5068e 33 = .ok (.aload_n 3, 1) := by decide +kernel
theorem dJ5_charAt_5068e_34 : decode cJ5_charAt_5068e 34 = .ok (.iload_n 1, 1) := by decide +kernel
theorem dJ5_charAt_5068e_35 : decode cJ5_charAt_5068e 35 = .ok (.baload, 1) := by decide +kernel
theorem dJ5_charAt_5068e_36 : decode cJ5_charAt_5068e 36 = .ok (.sipush 255, 3) := by decide +kernel
theorem dJ5_charAt_5068e_39 : decode cJ5_charAt_5068e 39 = .ok (.iand, 1) := by decide +kernel
theorem dJ5_charAt_5068e_40 : decode cJ5_charAt_5068e 40 = .ok (.i2c, 1) := by decide +kernel
theorem dJ5_charAt_5068e_41 : decode cJ5_charAt_5068e 41 = .ok (.ireturn, 1) := by decide +kernel
theorem dJ5_charAt_5068e_42 : decode cJ5_charAt_5068e 42 = .ok (.aload_n 3, 1) := by decide +kernel
theorem dJ5_charAt_5068e_43 : decode cJ5_charAt_5068e 43 = .ok (.iload_n 1, 1) := by decide +kernel
theorem dJ5_charAt_5068e_44 : decode cJ5_charAt_5068e 44 = .ok (.invokestatic 148, 3) := by decide +kernel
theorem dJ5_charAt_5068e_47 : decode cJ5_charAt_5068e 47 = .ok (.ireturn, 1) := by decide +kernel
theorem dJ5_append_cf1ce_0 : decode cJ5_append_cf1ce 0 = .ok (.aload_n 1, 1) := by decide +kernel
theorem dJ5_append_cf1ce_1 : decode cJ5_append_cf1ce 1 = .ok (.ifnonnull 8, 3) := by decide +kernel
theorem dJ5_append_cf1ce_4 : decode cJ5_append_cf1ce 4 = .ok (.aload_n 0, 1) := by decide +kernel
theorem dJ5_append_cf1ce_5 : decode cJ5_append_cf1ce 5 = .ok (.invokevirtual 204, 3) := by decide +kernel
theorem dJ5_append_cf1ce_8 : decode cJ5_append_cf1ce 8 = .ok (.areturn, 1) := by decide +kernel
theorem dJ5_append_cf1ce_9 : decode cJ5_append_cf1ce 9 = .ok (.aload_n 1, 1) := by decide +kernel
theorem dJ5_append_cf1ce_10 : decode cJ5_append_cf1ce 10 = .ok (.invokevirtual 32, 3) := by decide +kernel
theorem dJ5_append_cf1ce_13 : decode cJ5_append_cf1ce 13 = .ok (.istore_n 2, 1) := by decide +kernel
theorem dJ5_append_cf1ce_14 : decode cJ5_append_cf1ce 14 = .ok (.aload_n 0, 1) := by decide +kernel
theorem dJ5_append_cf1ce_15 : decode cJ5_append_cf1ce 15 = .ok (.aload_n 0, 1) := by decide +kernel
theorem dJ5_append_cf1ce_16 : decode cJ5_append_cf1ce 16 = .ok (.getfield 79, 3) := by decide +kernel
theorem dJ5_append_cf1ce_19 : decode cJ5_append_cf1ce 19 = .ok (.iload_n 2, 1) := by decide +kernel
theorem dJ5_append_cf1ce_20 : decode cJ5_append_cf1ce 20 = .ok (.iadd, 1) := by decide +kernel
theorem dJ5_append_cf1ce_21 : decode cJ5_append_cf1ce 21 = .ok (.invokevirtual 100, 3) := by decide +kernel
theorem dJ5_append_cf1ce_24 : decode cJ5_append_cf1ce 24 = .ok (.aload_n 0, 1) := by decide +kernel
theorem dJ5_append_cf1ce_25 : decode cJ5_append_cf1ce 25 = .ok (.aload_n 0, 1) := by decide +kernel
theorem dJ5_append_cf1ce_26 : decode cJ5_append_cf1ce 26 = .ok (.getfield 79, 3) := by decide +kernel
theorem dJ5_append_cf1ce_29 : decode cJ5_append_cf1ce 29 = .ok (.aload_n 1, 1) := by decide +kernel
theorem dJ5_append_cf1ce_30 : decode cJ5_append_cf1ce 30 = .ok (.invokevirtual 208, 3) := by decide +kernel
theorem dJ5_append_cf1ce_33 : decode cJ5_append_cf1ce 33 = .ok (.aload_n 0, 1) := by decide +kernel
theorem dJ5_append_cf1ce_34 : decode cJ5_append_cf1ce 34 = .ok (.dup, 1) := by decide +kernel
theorem dJ5_append_cf1ce_35 : decode cJ5_append_cf1ce 35 = .ok (.getfield 79, 3) := by decide +kernel
theorem dJ5_append_cf1ce_38 : decode cJ5_append_cf1ce 38 = .ok (.iload_n 2, 1) := by decide +kernel
theorem dJ5_append_cf1ce_39 : decode cJ5_append_cf1ce 39 = .ok (.iadd, 1) := by decide +kernel
theorem dJ5_append_cf1ce_40 : decode cJ5_append_cf1ce 40 = .ok (.putfield 79, 3) := by decide +kernel
theorem dJ5_append_cf1ce_43 : decode cJ5_append_cf1ce 43 = .ok (.aload_n 0, 1) := by decide +kernel
theorem dJ5_append_cf1ce_44 : decode cJ5_append_cf1ce 44 = .ok (.areturn, 1) := by decide +kernel
theorem dJ5_appendNull_278bc_0 : decode cJ5_appendNull_278bc 0 = .ok (.aload_n 0, 1) := by decide +kernel
theorem dJ5_appendNull_278bc_1 : decode cJ5_appendNull_278bc 1 = .ok (.aload_n 0, 1) := by decide +kernel
theorem dJ5_appendNull_278bc_2 : decode cJ5_appendNull_278bc 2 = .ok (.getfield 79, 3) := by decide +kernel
theorem dJ5_appendNull_278bc_5 : decode cJ5_appendNull_278bc 5 = .ok (.iconst 4, 1) := by decide +kernel
theorem dJ5_appendNull_278bc_6 : decode cJ5_appendNull_278bc 6 = .ok (.iadd, 1) := by decide +kernel
theorem dJ5_appendNull_278bc_7 : decode cJ5_appendNull_278bc 7 = .ok (.invokevirtual 100, 3) := by decide +kernel
theorem dJ5_appendNull_278bc_10 : decode cJ5_appendNull_278bc 10 = .ok (.aload_n 0, 1) := by decide +kernel
theorem dJ5_appendNull_278bc_11 : decode cJ5_appendNull_278bc 11 = .ok (.getfield 79, 3) := by decide +kernel
theorem dJ5_appendNull_278bc_14 : decode cJ5_appendNull_278bc 14 = .ok (.istore_n 1, 1) := by decide +kernel
theorem dJ5_appendNull_278bc_15 : decode cJ5_appendNull_278bc 15 = .ok (.aload_n 0, 1) := by decide +kernel
theorem dJ5_appendNull_278bc_16 : decode cJ5_appendNull_278bc 16 = .ok (.getfield 15, 3) := by decide +kernel
theorem dJ5_appendNull_278bc_19 : decode cJ5_appendNull_278bc 19 = .ok (.astore_n 2, 1) := by decide +kernel
theorem dJ5_appendNull_278bc_20 : decode cJ5_appendNull_278bc 20 = .ok (.aload_n 0, 1) := by decide +kernel
theorem dJ5_appendNull_278bc_21 : decode cJ5_appendNull_278bc 21 = .ok (.invokevirtual 83, 3) := by decide +kernel
theorem dJ5_appendNull_278bc_24 : decode cJ5_appendNull_278bc 24 = .ok (.ifCond .eq 38, 3) := by decide +kernel
theorem dJ5_appendNull_278bc_27 : decode cJ5_appendNull_278bc 27 = .ok (.aload_n 2, 1) := by decide +kernel
theorem dJ5_appendNull_278bc_28 : decode cJ5_appendNull_278bc 28 = .ok (.iload_n 1, 1) := by decide +kernel
theorem dJ5_appendNull_278bc_29 : decode cJ5_appendNull_278bc 29 = .ok (.iinc 1 1, 3) := by decide +kernel
theorem dJ5_appendNull_278bc_32 : decode cJ5_appendNull_278bc 32 = .ok (.bipush 110, 2) := by decide +kernel
theorem dJ5_appendNull_278bc_34 : decode cJ5_appendNull_278bc 34 = .ok (.bastore, 1) := by decide +kernel
theorem dJ5_appendNull_278bc_35 : decode cJ5_appendNull_278bc 35 = .ok (.aload_n 2, 1) := by decide +kernel
theorem dJ5_appendNull_278bc_36 : decode cJ5_appendNull_278bc 36 = .ok (.iload_n 1, 1) := by decide +kernel
theorem dJ5_appendNull_278bc_37 : decode cJ5_appendNull_278bc 37 = .ok (.iinc 1 1, 3) := by decide +kernel
theorem dJ5_appendNull_278bc_40 : decode cJ5_appendNull_278bc 40 = .ok (.bipush 117, 2) := by decide +kernel
theorem dJ5_appendNull_278bc_42 : decode cJ5_appendNull_278bc 42 = .ok (.bastore, 1) := by decide +kernel
theorem dJ5_appendNull_278bc_43 : decode cJ5_appendNull_278bc 43 = .ok (.aload_n 2, 1) := by decide +kernel
theorem dJ5_appendNull_278bc_44 : decode cJ5_appendNull_278bc 44 = .ok (.iload_n 1, 1) := by decide +kernel
theorem dJ5_appendNull_278bc_45 : decode cJ5_appendNull_278bc 45 = .ok (.iinc 1 1, 3) := by decide +kernel
theorem dJ5_appendNull_278bc_48 : decode cJ5_appendNull_278bc 48 = .ok (.bipush 108, 2) := by decide +kernel
theorem dJ5_appendNull_278bc_50 : decode cJ5_appendNull_278bc 50 = .ok (.bastore, 1) := by decide +kernel
theorem dJ5_appendNull_278bc_51 : decode cJ5_appendNull_278bc 51 = .ok (.aload_n 2, 1) := by decide +kernel
theorem dJ5_appendNull_278bc_52 : decode cJ5_appendNull_278bc 52 = .ok (.iload_n 1, 1) := by decide +kernel
theorem dJ5_appendNull_278bc_53 : decode cJ5_appendNull_278bc 53 = .ok (.iinc 1 1, 3) := by decide +kernel
theorem dJ5_appendNull_278bc_56 : decode cJ5_appendNull_278bc 56 = .ok (.bipush 108, 2) := by decide +kernel
theorem dJ5_appendNull_278bc_58 : decode cJ5_appendNull_278bc 58 = .ok (.bastore, 1) := by decide +kernel
theorem dJ5_appendNull_278bc_59 : decode cJ5_appendNull_278bc 59 = .ok (.goto 17, 3) := by decide +kernel
theorem dJ5_appendNull_278bc_62 : decode cJ5_appendNull_278bc 62 = .ok (.aload_n 2, 1) := by decide +kernel
theorem dJ5_appendNull_278bc_63 : decode cJ5_appendNull_278bc 63 = .ok (.iload_n 1, 1) := by decide +kernel
theorem dJ5_appendNull_278bc_64 : decode cJ5_appendNull_278bc 64 = .ok (.bipush 110, 2) := by decide +kernel
theorem dJ5_appendNull_278bc_66 : decode cJ5_appendNull_278bc 66 = .ok (.bipush 117, 2) := by decide +kernel
theorem dJ5_appendNull_278bc_68 : decode cJ5_appendNull_278bc 68 = .ok (.bipush 108, 2) := by decide +kernel
theorem dJ5_appendNull_278bc_70 : decode cJ5_appendNull_278bc 70 = .ok (.bipush 108, 2) := by decide +kernel
theorem dJ5_appendNull_278bc_72 : decode cJ5_appendNull_278bc 72 = .ok (.invokestatic 226, 3) := by decide +kernel
theorem dJ5_appendNull_278bc_75 : decode cJ5_appendNull_278bc 75 = .ok (.istore_n 1, 1) := by decide +kernel
theorem dJ5_appendNull_278bc_76 : decode cJ5_appendNull_278bc 76 = .ok (.aload_n 0, 1) := by decide +kernel
theorem dJ5_appendNull_278bc_77 : decode cJ5_appendNull_278bc 77 = .ok (.iload_n 1, 1) := by decide +kernel
theorem dJ5_appendNull_278bc_78 : decode cJ5_appendNull_278bc 78 = .ok (.putfield 79, 3) := by decide +kernel
theorem dJ5_appendNull_278bc_81 : decode cJ5_appendNull_278bc 81 = .ok (.aload_n 0, 1) := by decide +kernel
theorem dJ5_appendNull_278bc_82 : decode cJ5_appendNull_278bc 82 = .ok (.areturn, 1) := by decide +kernel
theorem dJ5_append_3fe6f_0 : decode cJ5_append_3fe6f 0 = .ok (.aload_n 0, 1) := by decide +kernel
theorem dJ5_append_3fe6f_1 : decode cJ5_append_3fe6f 1 = .ok (.aload_n 0, 1) := by decide +kernel
theorem dJ5_append_3fe6f_2 : decode cJ5_append_3fe6f 2 = .ok (.getfield 79, 3) := by decide +kernel
theorem dJ5_append_3fe6f_5 : decode cJ5_append_3fe6f 5 = .ok (.iconst 1, 1) := by decide +kernel
theorem dJ5_append_3fe6f_6 : decode cJ5_append_3fe6f 6 = .ok (.iadd, 1) := by decide +kernel
theorem dJ5_append_3fe6f_7 : decode cJ5_append_3fe6f 7 = .ok (.invokevirtual 100, 3) := by decide +kernel
theorem dJ5_append_3fe6f_10 : decode cJ5_append_3fe6f 10 = .ok (.aload_n 0, 1) := by decide +kernel
theorem dJ5_append_3fe6f_11 : decode cJ5_append_3fe6f 11 = .ok (.invokevirtual 83, 3) := by decide +kernel
theorem dJ5_append_3fe6f_14 : decode cJ5_append_3fe6f 14 = .ok (.ifCond .eq 31, 3) := by decide +kernel
theorem dJ5_append_3fe6f_17 : decode cJ5_append_3fe6f 17 = .ok (.iload_n 1, 1) := by decide +kernel
theorem dJ5_append_3fe6f_18 : decode cJ5_append_3fe6f 18 = .ok (.invokestatic 191, 3) := by decide +kernel
theorem dJ5_append_3fe6f_21 : decode cJ5_append_3fe6f 21 = .ok (.ifCond .eq 24, 3) := by decide +kernel
theorem dJ5_append_3fe6f_24 : decode cJ5_append_3fe6f 24 = .ok (.aload_n 0, 1) := by decide +kernel
theorem dJ5_append_3fe6f_25 : decode cJ5_append_3fe6f 25 = .ok (.getfield 15, 3) := by decide +kernel
theorem dJ5_append_3fe6f_28 : decode cJ5_append_3fe6f 28 = .ok (.aload_n 0, 1) := by decide +kernel
theorem dJ5_append_3fe6f_29 : decode cJ5_append_3fe6f 29 = .ok (.dup, 1) := by decide +kernel
theorem dJ5_append_3fe6f_30 : decode cJ5_append_3fe6f 30 = .ok (.getfield 79, 3) := by decide +kernel
theorem dJ5_append_3fe6f_33 : decode cJ5_append_3fe6f 33 = .ok (.dup_x1, 1) := by decide +kernel
theorem dJ5_append_3fe6f_34 : decode cJ5_append_3fe6f 34 = .ok (.iconst 1, 1) := by decide +kernel
theorem dJ5_append_3fe6f_35 : decode cJ5_append_3fe6f 35 = .ok (.iadd, 1) := by decide +kernel
theorem dJ5_append_3fe6f_36 : decode cJ5_append_3fe6f 36 = .ok (.putfield 79, 3) := by decide +kernel
theorem dJ5_append_3fe6f_39 : decode cJ5_append_3fe6f 39 = .ok (.iload_n 1, 1) := by decide +kernel
theorem dJ5_append_3fe6f_40 : decode cJ5_append_3fe6f 40 = .ok (.i2b, 1) := by decide +kernel
theorem dJ5_append_3fe6f_41 : decode cJ5_append_3fe6f 41 = .ok (.bastore, 1) := by decide +kernel
theorem dJ5_append_3fe6f_42 : decode cJ5_append_3fe6f 42 = .ok (.goto 33, 3) := by decide +kernel
theorem dJ5_append_3fe6f_45 : decode cJ5_append_3fe6f 45 = .ok (.aload_n 0, 1) := by decide +kernel
theorem dJ5_append_3fe6f_46 : decode cJ5_append_3fe6f 46 = .ok (.invokevirtual 83, 3) := by decide +kernel
theorem dJ5_append_3fe6f_49 : decode cJ5_append_3fe6f 49 = .ok (.ifCond .eq 7, 3) := by decide +kernel
theorem dJ5_append_3fe6f_52 : decode cJ5_append_3fe6f 52 = .ok (.aload_n 0, 1) := by decide +kernel
theorem dJ5_append_3fe6f_53 : decode cJ5_append_3fe6f 53 = .ok (.invokevirtual 195, 3) := by decide +kernel
theorem dJ5_append_3fe6f_56 : decode cJ5_append_3fe6f 56 = .ok (.aload_n 0, 1) := by decide +kernel
theorem dJ5_append_3fe6f_57 : decode cJ5_append_3fe6f 57 = .ok (.getfield 15, 3) := by decide +kernel
theorem dJ5_append_3fe6f_60 : decode cJ5_append_3fe6f 60 = .ok (.aload_n 0, 1) := by decide +kernel
theorem dJ5_append_3fe6f_61 : decode cJ5_append_3fe6f 61 = .ok (.dup, 1) := by decide +kernel
theorem dJ5_append_3fe6f_62 : decode cJ5_append_3fe6f 62 = .ok (.getfield 79, 3) := by decide +kernel
theorem dJ5_append_3fe6f_65 : decode cJ5_append_3fe6f 65 = .ok (.dup_x1, 1) := by decide +kernel
theorem dJ5_append_3fe6f_66 : decode cJ5_append_3fe6f 66 = .ok (.iconst 1, 1) := by decide +kernel
theorem dJ5_append_3fe6f_67 : decode cJ5_append_3fe6f 67 = .ok (.iadd, 1) := by decide +kernel
theorem dJ5_append_3fe6f_68 : decode cJ5_append_3fe6f 68 = .ok (.putfield 79, 3) := by decide +kernel
theorem dJ5_append_3fe6f_71 : decode cJ5_append_3fe6f 71 = .ok (.iload_n 1, 1) := by decide +kernel
theorem dJ5_append_3fe6f_72 : decode cJ5_append_3fe6f 72 = .ok (.invokestatic 197, 3) := by decide +kernel
theorem dJ5_append_3fe6f_75 : decode cJ5_append_3fe6f 75 = .ok (.aload_n 0, 1) := by decide +kernel
theorem dJ5_append_3fe6f_76 : decode cJ5_append_3fe6f 76 = .ok (.areturn, 1) := by decide +kernel
theorem dJ5_append_c97b9_0 : decode cJ5_append_c97b9 0 = .ok (.aload_n 0, 1) := by decide +kernel
theorem dJ5_append_c97b9_1 : decode cJ5_append_c97b9 1 = .ok (.getfield 79, 3) := by decide +kernel
theorem dJ5_append_c97b9_4 : decode cJ5_append_c97b9 4 = .ok (.istore_n 2, 1) := by decide +kernel
theorem dJ5_append_c97b9_5 : decode cJ5_append_c97b9 5 = .ok (.iload_n 2, 1) := by decide +kernel
theorem dJ5_append_c97b9_6 : decode cJ5_append_c97b9 6 = .ok (.iload_n 1, 1) := by decide +kernel
theorem dJ5_append_c97b9_7 : decode cJ5_append_c97b9 7 = .ok (.invokestatic 245, 3) := by decide +kernel
theorem dJ5_append_c97b9_10 : decode cJ5_append_c97b9 10 = .ok (.iadd, 1) := by decide +kernel
theorem dJ5_append_c97b9_11 : decode cJ5_append_c97b9 11 = .ok (.istore_n 3, 1) := by decide +kernel
theorem dJ5_append_c97b9_12 : decode cJ5_append_c97b9 12 = .ok (.aload_n 0, 1) := by decide +kernel
theorem dJ5_append_c97b9_13 : decode cJ5_append_c97b9 13 = .ok (.iload_n 3, 1) := by decide +kernel
theorem dJ5_append_c97b9_14 : decode cJ5_append_c97b9 14 = .ok (.invokevirtual 100, 3) := by decide +kernel
theorem dJ5_append_c97b9_17 : decode cJ5_append_c97b9 17 = .ok (.aload_n 0, 1) := by decide +kernel
theorem dJ5_append_c97b9_18 : decode cJ5_append_c97b9 18 = .ok (.invokevirtual 83, 3) := by decide +kernel
theorem dJ5_append_c97b9_21 : decode cJ5_append_c97b9 21 = .ok (.ifCond .eq 16, 3) := by decide +kernel
theorem dJ5_append_c97b9_24 : decode cJ5_append_c97b9 24 = .ok (.iload_n 1, 1) := by decide +kernel
theorem dJ5_append_c97b9_25 : decode cJ5_append_c97b9 25 = .ok (.iload_n 3, 1) := by decide +kernel
theorem dJ5_append_c97b9_26 : decode cJ5_append_c97b9 26 = .ok (.aload_n 0, 1) := by decide +kernel
theorem dJ5_append_c97b9_27 : decode cJ5_append_c97b9 27 = .ok (.getfield 15, 3) := by decide +kernel
theorem dJ5_append_c97b9_30 : decode cJ5_append_c97b9 30 = .ok (.invokestatic 248, 3) := by decide +kernel
theorem dJ5_append_c97b9_33 : decode cJ5_append_c97b9 33 = .ok (.pop, 1) := by decide +kernel
theorem dJ5_append_c97b9_34 : decode cJ5_append_c97b9 34 = .ok (.goto 14, 3) := by decide +kernel
theorem dJ5_append_c97b9_37 : decode cJ5_append_c97b9 37 = .ok (.iload_n 1, 1) := by decide +kernel
theorem dJ5_append_c97b9_38 : decode cJ5_append_c97b9 38 = .ok (.iload_n 2, 1) := by decide +kernel
theorem dJ5_append_c97b9_39 : decode cJ5_append_c97b9 39 = .ok (.iload_n 3, 1) := by decide +kernel
theorem dJ5_append_c97b9_40 : decode cJ5_append_c97b9 40 = .ok (.aload_n 0, 1) := by decide +kernel
theorem dJ5_append_c97b9_41 : decode cJ5_append_c97b9 41 = .ok (.getfield 15, 3) := by decide +kernel
theorem dJ5_append_c97b9_44 : decode cJ5_append_c97b9 44 = .ok (.invokestatic 251, 3) := by decide +kernel
theorem dJ5_append_c97b9_47 : decode cJ5_append_c97b9 47 = .ok (.pop, 1) := by decide +kernel
theorem dJ5_append_c97b9_48 : decode cJ5_append_c97b9 48 = .ok (.aload_n 0, 1) := by decide +kernel
theorem dJ5_append_c97b9_49 : decode cJ5_append_c97b9 49 = .ok (.iload_n 3, 1) := by decide +kernel
theorem dJ5_append_c97b9_50 : decode cJ5_append_c97b9 50 = .ok (.putfield 79, 3) := by decide +kernel
theorem dJ5_append_c97b9_53 : decode cJ5_append_c97b9 53 = .ok (.aload_n 0, 1) := by decide +kernel
theorem dJ5_append_c97b9_54 : decode cJ5_append_c97b9 54 = .ok (.areturn, 1) := by decide +kernel
theorem dJ5_getValue_6d5f1_0 : decode cJ5_getValue_6d5f1 0 = .ok (.aload_n 0, 1) := by decide +kernel
theorem dJ5_getValue_6d5f1_1 : decode cJ5_getValue_6d5f1 1 = .ok (.getfield 15, 3) := by decide +kernel
theorem dJ5_getValue_6d5f1_4 : decode cJ5_getValue_6d5f1 4 = .ok (.areturn, 1) := by decide +kernel
theorem dJ5_isLatin1_aae02_0 : decode cJ5_isLatin1_aae02 0 = .ok (.getstatic 18, 3) := by decide +kernel
theorem dJ5_isLatin1_aae02_3 : decode cJ5_isLatin1_aae02 3 = .ok (.ifCond .eq 14, 3) := by decide +kernel
theorem dJ5_isLatin1_aae02_6 : decode cJ5_isLatin1_aae02 6 = .ok (.aload_n 0, 1) := by decide +kernel
theorem dJ5_isLatin1_aae02_7 : decode cJ5_isLatin1_aae02 7 = .ok (.getfield 22, 3) := by decide +kernel
theorem dJ5_isLatin1_aae02_10 : decode cJ5_isLatin1_aae02 10 = .ok (.ifCond .ne 7, 3) := by decide +kernel
theorem dJ5_isLatin1_aae02_13 : decode cJ5_isLatin1_aae02 13 = .ok (.iconst 1, 1) := by decide +kernel
theorem dJ5_isLatin1_aae02_14 : decode cJ5_isLatin1_aae02 14 = .ok (.goto 4, 3) := by decide +kernel
theorem dJ5_isLatin1_aae02_17 : decode cJ5_isLatin1_aae02 17 = .ok (.iconst 0, 1) := by decide +kernel
theorem dJ5_isLatin1_aae02_18 : decode cJ5_isLatin1_aae02 18 = .ok (.ireturn, 1) := by decide +kernel
theorem dJ5_inflateIfNeededFor_a7421_0 : decode cJ5_inflateIfNeededFor_a7421 0 = .ok (.getstatic 18, 3) := by decide +kernel
theorem dJ5_inflateIfNeededFor_a7421_3 : decode cJ5_inflateIfNeededFor_a7421 3 = .ok (.ifCond .eq 18, 3) := by decide +kernel
theorem dJ5_inflateIfNeededFor_a7421_6 : decode cJ5_inflateIfNeededFor_a7421 6 = .ok (.aload_n 0, 1) := by decide +kernel
theorem dJ5_inflateIfNeededFor_a7421_7 : decode cJ5_inflateIfNeededFor_a7421 7 = .ok (.getfield 22, 3) := by decide +kernel
theorem dJ5_inflateIfNeededFor_a7421_10 : decode cJ5_inflateIfNeededFor_a7421 10 = .ok (.aload_n 1, 1) := by decide +kernel
theorem dJ5_inflateIfNeededFor_a7421_11 : decode cJ5_inflateIfNeededFor_a7421 11 = .ok (.invokevirtual 40, 3) := by decide +kernel
theorem dJ5_inflateIfNeededFor_a7421_14 : decode cJ5_inflateIfNeededFor_a7421 14 = .ok (.if_icmp .eq 7, 3) := by decide +kernel
theorem dJ5_inflateIfNeededFor_a7421_17 : decode cJ5_inflateIfNeededFor_a7421 17 = .ok (.aload_n 0, 1) := by decide +kernel
theorem dJ5_inflateIfNeededFor_a7421_18 : decode cJ5_inflateIfNeededFor_a7421 18 = .ok (.invokevirtual 195, 3) := by decide +kernel
theorem dJ5_inflateIfNeededFor_a7421_21 : decode cJ5_inflateIfNeededFor_a7421 21 = .ok (.return_, 1) := by decide +kernel
theorem dJ5_putStringAt_47b60_0 : decode cJ5_putStringAt_47b60 0 = .ok (.aload_n 0, 1) := by decide +kernel
theorem dJ5_putStringAt_47b60_1 : decode cJ5_putStringAt_47b60 1 = .ok (.aload_n 2, 1) := by decide +kernel
theorem dJ5_putStringAt_47b60_2 : decode cJ5_putStringAt_47b60 2 = .ok (.invokevirtual 397, 3) := by decide +kernel
theorem dJ5_putStringAt_47b60_5 : decode cJ5_putStringAt_47b60 5 = .ok (.aload_n 2, 1) := by decide +kernel
theorem dJ5_putStringAt_47b60_6 : decode cJ5_putStringAt_47b60 6 = .ok (.aload_n 0, 1) := by decide +kernel
theorem dJ5_putStringAt_47b60_7 : decode cJ5_putStringAt_47b60 7 = .ok (.getfield 15, 3) := by decide +kernel
theorem dJ5_putStringAt_47b60_10 : decode cJ5_putStringAt_47b60 10 = .ok (.iload_n 1, 1) := by decide +kernel
theorem dJ5_putStringAt_47b60_11 : decode cJ5_putStringAt_47b60 11 = .ok (.aload_n 0, 1) := by decide +kernel
theorem dJ5_putStringAt_47b60_12 : decode cJ5_putStringAt_47b60 12 = .ok (.getfield 22, 3) := by decide +kernel
theorem dJ5_putStringAt_47b60_15 : decode cJ5_putStringAt_47b60 15 = .ok (.invokevirtual 399, 3) := by decide +kernel
theorem dJ5_putStringAt_47b60_18 : decode cJ5_putStringAt_47b60 18 = .ok (.return_, 1) := by decide +kernel
theorem dJx00060_init_d00df_0 : decode cJx00060_init_d00df 0 = .ok (.aload_n 0, 1) := by decide +kernel
theorem dJx00060_init_d00df_1 : decode cJx00060_init_d00df 1 = .ok (.new 10, 3) := by decide +kernel
theorem dJx00060_init_d00df_4 : decode cJx00060_init_d00df 4 = .ok (.dup, 1) := by decide +kernel
theorem dJx00060_init_d00df_5 : decode cJx00060_init_d00df 5 = .ok (.invokespecial 12, 3) := by decide +kernel
theorem dJx00060_init_d00df_8 : decode cJx00060_init_d00df 8 = .ok (.ldc 13, 2) := by decide +kernel
theorem dJx00060_init_d00df_10 : decode cJx00060_init_d00df 10 = .ok (.invokevirtual 15, 3) := by decide +kernel
theorem dJx00060_init_d00df_13 : decode cJx00060_init_d00df 13 = .ok (.iload_n 1, 1) := by decide +kernel
theorem dJx00060_init_d00df_14 : decode cJx00060_init_d00df 14 = .ok (.invokevirtual 19, 3) := by decide +kernel
theorem dJx00060_init_d00df_17 : decode cJx00060_init_d00df 17 = .ok (.invokevirtual 22, 3) := by decide +kernel
theorem dJx00060_init_d00df_20 : decode cJx00060_init_d00df 20 = .ok (.invokespecial 7, 3) := by decide +kernel
theorem dJx00060_init_d00df_23 : decode cJx00060_init_d00df 23 = .ok (.return_, 1) := by decide +kernel
theorem dJx29ce0_ordinal_8abf5_0 : decode cJx29ce0_ordinal_8abf5 0 = .ok (.aload_n 0, 1) := by decide +kernel
theorem dJx29ce0_ordinal_8abf5_1 : decode cJx29ce0_ordinal_8abf5 1 = .ok (.getfield 7, 3) := by decide +kernel
theorem dJx29ce0_ordinal_8abf5_4 : decode cJx29ce0_ordinal_8abf5 4 = .ok (.ireturn, 1) := by decide +kernel
theorem dJ6_getChars_ba4f3_0 : decode cJ6_getChars_ba4f3 0 = .ok (.iload_n 1, 1) := by decide +kernel
theorem dJ6_getChars_ba4f3_1 : decode cJ6_getChars_ba4f3 1 = .ok (.istore 5, 2) := by decide +kernel
theorem dJ6_getChars_ba4f3_3 : decode cJ6_getChars_ba4f3 3 = .ok (.iload_n 0, 1) := by decide +kernel
theorem dJ6_getChars_ba4f3_4 : decode cJ6_getChars_ba4f3 4 = .ok (.ifCond .ge 7, 3) := by decide +kernel
theorem dJ6_getChars_ba4f3_7 : decode cJ6_getChars_ba4f3 7 = .ok (.iconst 1, 1) := by decide +kernel
theorem dJ6_getChars_ba4f3_8 : decode cJ6_getChars_ba4f3 8 = .ok (.goto 4, 3) := by decide +kernel
theorem dJ6_getChars_ba4f3_11 : decode cJ6_getChars_ba4f3 11 = .ok (.iconst 0, 1) := by decide +kernel
theorem dJ6_getChars_ba4f3_12 : decode cJ6_getChars_ba4f3 12 = .ok (.istore 6, 2) := by decide +kernel
theorem dJ6_getChars_ba4f3_14 : decode cJ6_getChars_ba4f3 14 = .ok (.iload 6, 2) := by decide +kernel
theorem dJ6_getChars_ba4f3_16 : decode cJ6_getChars_ba4f3 16 = .ok (.ifCond .ne 6, 3) := by decide +kernel
theorem dJ6_getChars_ba4f3_19 : decode cJ6_getChars_ba4f3 19 = .ok (.iload_n 0, 1) := by decide +kernel
theorem dJ6_getChars_ba4f3_20 : decode cJ6_getChars_ba4f3 20 = .ok (.ineg, 1) := by decide +kernel
theorem dJ6_getChars_ba4f3_21 : decode cJ6_getChars_ba4f3 21 = .ok (.istore_n 0, 1) := by decide +kernel
theorem dJ6_getChars_ba4f3_22 : decode cJ6_getChars_ba4f3 22 = .ok (.iload_n 0, 1) := by decide +kernel
theorem dJ6_getChars_ba4f3_23 : decode cJ6_getChars_ba4f3 23 = .ok (.bipush (-100), 2) := by decide +kernel
theorem dJ6_getChars_ba4f3_25 : decode cJ6_getChars_ba4f3 25 = .ok (.if_icmp .gt 47, 3) := by decide +kernel
theorem dJ6_getChars_ba4f3_28 : decode cJ6_getChars_ba4f3 28 = .ok (.iload_n 0, 1) := by decide +kernel
theorem dJ6_getChars_ba4f3_29 : decode cJ6_getChars_ba4f3 29 = .ok (.bipush 100, 2) := by decide +kernel
theorem dJ6_getChars_ba4f3_31 : decode cJ6_getChars_ba4f3 31 = .ok (.idiv, 1) := by decide +kernel
theorem dJ6_getChars_ba4f3_32 : decode cJ6_getChars_ba4f3 32 = .ok (.istore_n 3, 1) := by decide +kernel
theorem dJ6_getChars_ba4f3_33 : decode cJ6_getChars_ba4f3 33 = .ok (.iload_n 3, 1) := by decide +kernel
theorem dJ6_getChars_ba4f3_34 : decode cJ6_getChars_ba4f3 34 = .ok (.bipush 100, 2) := by decide +kernel
theorem dJ6_getChars_ba4f3_36 : decode cJ6_getChars_ba4f3 36 = .ok (.imul, 1) := by decide +kernel
theorem dJ6_getChars_ba4f3_37 : decode cJ6_getChars_ba4f3 37 = .ok (.iload_n 0, 1) := by decide +kernel
theorem dJ6_getChars_ba4f3_38 : decode cJ6_getChars_ba4f3 38 = .ok (.isub, 1) := by decide +kernel
theorem dJ6_getChars_ba4f3_39 : decode cJ6_getChars_ba4f3 39 = .ok (.istore 4, 2) := by decide +kernel
theorem dJ6_getChars_ba4f3_41 : decode cJ6_getChars_ba4f3 41 = .ok (.iload_n 3, 1) := by decide +kernel
theorem dJ6_getChars_ba4f3_42 : decode cJ6_getChars_ba4f3 42 = .ok (.istore_n 0, 1) := by decide +kernel
theorem dJ6_getChars_ba4f3_43 : decode cJ6_getChars_ba4f3 43 = .ok (.aload_n 2, 1) := by decide +kernel
theorem dJ6_getChars_ba4f3_44 : decode cJ6_getChars_ba4f3 44 = .ok (.iinc 5 (-1), 3) := by decide +kernel
theorem dJ6_getChars_ba4f3_47 : decode cJ6_getChars_ba4f3 47 = .ok (.iload 5, 2) := by decide +kernel
theorem dJ6_getChars_ba4f3_49 : decode cJ6_getChars_ba4f3 49 = .ok (.getstatic 83, 3) := by decide +kernel
theorem dJ6_getChars_ba4f3_52 : decode cJ6_getChars_ba4f3 52 = .ok (.iload 4, 2) := by decide +kernel
theorem dJ6_getChars_ba4f3_54 : decode cJ6_getChars_ba4f3 54 = .ok (.baload, 1) := by decide +kernel
theorem dJ6_getChars_ba4f3_55 : decode cJ6_getChars_ba4f3 55 = .ok (.bastore, 1) := by decide +kernel
theorem dJ6_getChars_ba4f3_56 : decode cJ6_getChars_ba4f3 56 = .ok (.aload_n 2, 1) := by decide +kernel
theorem dJ6_getChars_ba4f3_57 : decode cJ6_getChars_ba4f3 57 = .ok (.iinc 5 (-1), 3) := by decide +kernel
theorem dJ6_getChars_ba4f3_60 : decode cJ6_getChars_ba4f3 60 = .ok (.iload 5, 2) := by decide +kernel
theorem dJ6_getChars_ba4f3_62 : decode cJ6_getChars_ba4f3 62 = .ok (.getstatic 87, 3) := by decide +kernel
theorem dJ6_getChars_ba4f3_65 : decode cJ6_getChars_ba4f3 65 = .ok (.iload 4, 2) := by decide +kernel
theorem dJ6_getChars_ba4f3_67 : decode cJ6_getChars_ba4f3 67 = .ok (.baload, 1) := by decide +kernel
theorem dJ6_getChars_ba4f3_68 : decode cJ6_getChars_ba4f3 68 = .ok (.bastore, 1) := by decide +kernel
theorem dJ6_getChars_ba4f3_69 : decode cJ6_getChars_ba4f3 69 = .ok (.goto (-47), 3) := by decide +kernel
theorem dJ6_getChars_ba4f3_72 : decode cJ6_getChars_ba4f3 72 = .ok (.aload_n 2, 1) := by decide +kernel
theorem dJ6_getChars_ba4f3_73 : decode cJ6_getChars_ba4f3 73 = .ok (.iinc 5 (-1), 3) := by decide +kernel
theorem dJ6_getChars_ba4f3_76 : decode cJ6_getChars_ba4f3 76 = .ok (.iload 5, 2) := by decide +kernel
theorem dJ6_getChars_ba4f3_78 : decode cJ6_getChars_ba4f3 78 = .ok (.getstatic 83, 3) := by decide +kernel
theorem dJ6_getChars_ba4f3_81 : decode cJ6_getChars_ba4f3 81 = .ok (.iload_n 0, 1) := by decide +kernel
theorem dJ6_getChars_ba4f3_82 : decode cJ6_getChars_ba4f3 82 = .ok (.ineg, 1) := by decide +kernel
theorem dJ6_getChars_ba4f3_83 : decode cJ6_getChars_ba4f3 83 = .ok (.baload, 1) := by decide +kernel
theorem dJ6_getChars_ba4f3_84 : decode cJ6_getChars_ba4f3 84 = .ok (.bastore, 1) := by decide +kernel
theorem dJ6_getChars_ba4f3_85 : decode cJ6_getChars_ba4f3 85 = .ok (.iload_n 0, 1) := by decide +kernel
theorem dJ6_getChars_ba4f3_86 : decode cJ6_getChars_ba4f3 86 = .ok (.bipush (-9), 2) := by decide +kernel
theorem dJ6_getChars_ba4f3_88 : decode cJ6_getChars_ba4f3 88 = .ok (.if_icmp .ge 16, 3) := by decide +kernel
theorem dJ6_getChars_ba4f3_91 : decode cJ6_getChars_ba4f3 91 = .ok (.aload_n 2, 1) := by decide +kernel
theorem dJ6_getChars_ba4f3_92 : decode cJ6_getChars_ba4f3 92 = .ok (.iinc 5 (-1), 3) := by decide +kernel
theorem dJ6_getChars_ba4f3_95 : decode cJ6_getChars_ba4f3 95 = .ok (.iload 5, 2) := by decide +kernel
theorem dJ6_getChars_ba4f3_97 : decode cJ6_getChars_ba4f3 97 = .ok (.getstatic 87, 3) := by decide +kernel
theorem dJ6_getChars_ba4f3_100 : decode cJ6_getChars_ba4f3 100 = .ok (.iload_n 0, 1) := by decide +kernel
theorem dJ6_getChars_ba4f3_101 : decode cJ6_getChars_ba4f3 101 = .ok (.ineg, 1) := by decide +kernel
theorem dJ6_getChars_ba4f3_102 : decode cJ6_getChars_ba4f3 102 = .ok (.baload, 1) := by decide +kernel
theorem dJ6_getChars_ba4f3_103 : decode cJ6_getChars_ba4f3 103 = .ok (.bastore, 1) := by decide +kernel
theorem dJ6_getChars_ba4f3_104 : decode cJ6_getChars_ba4f3 104 = .ok (.iload 6, 2) := by decide +kernel
theorem dJ6_getChars_ba4f3_106 : decode cJ6_getChars_ba4f3 106 = .ok (.ifCond .eq 12, 3) := by decide +kernel
theorem dJ6_getChars_ba4f3_109 : decode cJ6_getChars_ba4f3 109 = .ok (.aload_n 2, 1) := by decide +kernel
theorem dJ6_getChars_ba4f3_110 : decode cJ6_getChars_ba4f3 110 = .ok (.iinc 5 (-1), 3) := by decide +kernel
theorem dJ6_getChars_ba4f3_113 : decode cJ6_getChars_ba4f3 113 = .ok (.iload 5, 2) := by decide +kernel
theorem dJ6_getChars_ba4f3_115 : decode cJ6_getChars_ba4f3 115 = .ok (.bipush 45, 2) := by decide +kernel
theorem dJ6_getChars_ba4f3_117 : decode cJ6_getChars_ba4f3 117 = .ok (.bastore, 1) := by decide +kernel
theorem dJ6_getChars_ba4f3_118 : decode cJ6_getChars_ba4f3 118 = .ok (.iload 5, 2) := by decide +kernel
theorem dJ6_getChars_ba4f3_120 : decode cJ6_getChars_ba4f3 120 = .ok (.ireturn, 1) := by decide +kernel
theorem dJ6_stringSize_0f7a4_0 : decode cJ6_stringSize_0f7a4 0 = .ok (.iconst 1, 1) := by decide +kernel
theorem dJ6_stringSize_0f7a4_1 : decode cJ6_stringSize_0f7a4 1 = .ok (.istore_n 1, 1) := by decide +kernel
theorem dJ6_stringSize_0f7a4_2 : decode cJ6_stringSize_0f7a4 2 = .ok (.iload_n 0, 1) := by decide +kernel
theorem dJ6_stringSize_0f7a4_3 : decode cJ6_stringSize_0f7a4 3 = .ok (.ifCond .lt 8, 3) := by decide +kernel
theorem dJ6_stringSize_0f7a4_6 : decode cJ6_stringSize_0f7a4 6 = .ok (.iconst 0, 1) := by decide +kernel
theorem dJ6_stringSize_0f7a4_7 : decode cJ6_stringSize_0f7a4 7 = .ok (.istore_n 1, 1) := by decide +kernel
theorem dJ6_stringSize_0f7a4_8 : decode cJ6_stringSize_0f7a4 8 = .ok (.iload_n 0, 1) := by decide +kernel
theorem dJ6_stringSize_0f7a4_9 : decode cJ6_stringSize_0f7a4 9 = .ok (.ineg, 1) := by decide +kernel
theorem dJ6_stringSize_0f7a4_10 : decode cJ6_stringSize_0f7a4 10 = .ok (.istore_n 0, 1) := by decide +kernel
theorem dJ6_stringSize_0f7a4_11 : decode cJ6_stringSize_0f7a4 11 = .ok (.bipush (-10), 2) := by decide +kernel
theorem dJ6_stringSize_0f7a4_13 : decode cJ6_stringSize_0f7a4 13 = .ok (.istore_n 2, 1) := by decide +kernel
theorem dJ6_stringSize_0f7a4_14 : decode cJ6_stringSize_0f7a4 14 = .ok (.iconst 1, 1) := by decide +kernel
theorem dJ6_stringSize_0f7a4_15 : decode cJ6_stringSize_0f7a4 15 = .ok (.istore_n 3, 1) := by decide +kernel
theorem dJ6_stringSize_0f7a4_16 : decode cJ6_stringSize_0f7a4 16 = .ok (.iload_n 3, 1) := by decide +kernel
theorem dJ6_stringSize_0f7a4_17 : decode cJ6_stringSize_0f7a4 17 = .ok (.bipush 10, 2) := by decide +kernel
theorem dJ6_stringSize_0f7a4_19 : decode cJ6_stringSize_0f7a4 19 = .ok (.if_icmp .ge 23, 3) := by decide +kernel
theorem dJ6_stringSize_0f7a4_22 : decode cJ6_stringSize_0f7a4 22 = .ok (.iload_n 0, 1) := by decide +kernel
theorem dJ6_stringSize_0f7a4_23 : decode cJ6_stringSize_0f7a4 23 = .ok (.iload_n 2, 1) := by decide +kernel
theorem dJ6_stringSize_0f7a4_24 : decode cJ6_stringSize_0f7a4 24 = .ok (.if_icmp .le 7, 3) := by decide +kernel
theorem dJ6_stringSize_0f7a4_27 : decode cJ6_stringSize_0f7a4 27 = .ok (.iload_n 3, 1) := by decide +kernel
theorem dJ6_stringSize_0f7a4_28 : decode cJ6_stringSize_0f7a4 28 = .ok (.iload_n 1, 1) := by decide +kernel
theorem dJ6_stringSize_0f7a4_29 : decode cJ6_stringSize_0f7a4 29 = .ok (.iadd, 1) := by decide +kernel
theorem dJ6_stringSize_0f7a4_30 : decode cJ6_stringSize_0f7a4 30 = .ok (.ireturn, 1) := by decide +kernel
theorem dJ6_stringSize_0f7a4_31 : decode cJ6_stringSize_0f7a4 31 = .ok (.bipush 10, 2) := by decide +kernel
theorem dJ6_stringSize_0f7a4_33 : decode cJ6_stringSize_0f7a4 33 = .ok (.iload_n 2, 1) := by decide +kernel
theorem dJ6_stringSize_0f7a4_34 : decode cJ6_stringSize_0f7a4 34 = .ok (.imul, 1) := by decide +kernel
theorem dJ6_stringSize_0f7a4_35 : decode cJ6_stringSize_0f7a4 35 = .ok (.istore_n 2, 1) := by decide +kernel
theorem dJ6_stringSize_0f7a4_36 : decode cJ6_stringSize_0f7a4 36 = .ok (.iinc 3 1, 3) := by decide +kernel
theorem dJ6_stringSize_0f7a4_39 : decode cJ6_stringSize_0f7a4 39 = .ok (.goto (-23), 3) := by decide +kernel
theorem dJ6_stringSize_0f7a4_42 : decode cJ6_stringSize_0f7a4 42 = .ok (.bipush 10, 2) := by decide +kernel
theorem dJ6_stringSize_0f7a4_44 : decode cJ6_stringSize_0f7a4 44 = .ok (.iload_n 1, 1) := by decide +kernel
theorem dJ6_stringSize_0f7a4_45 : decode cJ6_stringSize_0f7a4 45 = .ok (.iadd, 1) := by decide +kernel
theorem dJ6_stringSize_0f7a4_46 : decode cJ6_stringSize_0f7a4 46 = .ok (.ireturn, 1) := by decide +kernel
theorem dJ9_max_7cf53_0 : decode cJ9_max_7cf53 0 = .ok (.iload_n 0, 1) := by decide +kernel
theorem dJ9_max_7cf53_1 : decode cJ9_max_7cf53 1 = .ok (.iload_n 1, 1) := by decide +kernel
theorem dJ9_max_7cf53_2 : decode cJ9_max_7cf53 2 = .ok (.if_icmp .lt 7, 3) := by decide +kernel
theorem dJ9_max_7cf53_5 : decode cJ9_max_7cf53 5 = .ok (.iload_n 0, 1) := by decide +kernel
theorem dJ9_max_7cf53_6 : decode cJ9_max_7cf53 6 = .ok (.goto 4, 3) := by decide +kernel
theorem dJ9_max_7cf53_9 : decode cJ9_max_7cf53 9 = .ok (.iload_n 1, 1) := by decide +kernel
theorem dJ9_max_7cf53_10 : decode cJ9_max_7cf53 10 = .ok (.ireturn, 1) := by decide +kernel
theorem dJ9_min_7cf53_0 : decode cJ9_min_7cf53 0 = .ok (.iload_n 0, 1) := by decide +kernel
theorem dJ9_min_7cf53_1 : decode cJ9_min_7cf53 1 = .ok (.iload_n 1, 1) := by decide +kernel
theorem dJ9_min_7cf53_2 : decode cJ9_min_7cf53 2 = .ok (.if_icmp .gt 7, 3) := by decide +kernel
theorem dJ9_min_7cf53_5 : decode cJ9_min_7cf53 5 = .ok (.iload_n 0, 1) := by decide +kernel
theorem dJ9_min_7cf53_6 : decode cJ9_min_7cf53 6 = .ok (.goto 4, 3) := by decide +kernel
theorem dJ9_min_7cf53_9 : decode cJ9_min_7cf53 9 = .ok (.iload_n 1, 1) := by decide +kernel
theorem dJ9_min_7cf53_10 : decode cJ9_min_7cf53 10 = .ok (.ireturn, 1) := by decide +kernel
theorem dJ0_init_81219_0 : decode cJ0_init_81219 0 = .ok (.aload_n 0, 1) := by decide +kernel
theorem dJ0_init_81219_1 : decode cJ0_init_81219 1 = .ok (.aload_n 1, 1) := by decide +kernel
theorem dJ0_init_81219_2 : decode cJ0_init_81219 2 = .ok (.aconst_null, 1) := by decide +kernel
theorem dJ0_init_81219_3 : decode cJ0_init_81219 3 = .ok (.invokespecial 489, 3) := by decide +kernel
theorem dJ0_init_81219_6 : decode cJ0_init_81219 6 = .ok (.return_, 1) := by decide +kernel
theorem dJ0_length_8abf5_0 : decode cJ0_length_8abf5 0 = .ok (.aload_n 0, 1) := by decide +kernel
theorem dJ0_length_8abf5_1 : decode cJ0_length_8abf5 1 = .ok (.getfield 9, 3) := by decide +kernel
theorem dJ0_length_8abf5_4 : decode cJ0_length_8abf5 4 = .ok (.arraylength, 1) := by decide +kernel
theorem dJ0_length_8abf5_5 : decode cJ0_length_8abf5 5 = .ok (.aload_n 0, 1) := by decide +kernel
theorem dJ0_length_8abf5_6 : decode cJ0_length_8abf5 6 = .ok (.invokevirtual 335, 3) := by decide +kernel
theorem dJ0_length_8abf5_9 : decode cJ0_length_8abf5 9 = .ok (.ishr, 1) := by decide +kernel
theorem dJ0_length_8abf5_10 : decode cJ0_length_8abf5 10 = .ok (.ireturn, 1) := by decide +kernel
theorem dJ0_charAt_5068e_0 : decode cJ0_charAt_5068e 0 = .ok (.aload_n 0, 1) := by decide +kernel
theorem dJ0_charAt_5068e_1 : decode cJ0_charAt_5068e 1 = .ok (.invokevirtual 492, 3) := by decide +kernel
theorem dJ0_charAt_5068e_4 : decode cJ0_charAt_5068e 4 = .ok (.ifCond .eq 12, 3) := by decide +kernel
theorem dJ0_charAt_5068e_7 : decode cJ0_charAt_5068e 7 = .ok (.aload_n 0, 1) := by decide +kernel
theorem dJ0_charAt_5068e_8 : decode cJ0_charAt_5068e 8 = .ok (.getfield 9, 3) := by decide +kernel
theorem dJ0_charAt_5068e_11 : decode cJ0_charAt_5068e 11 = .ok (.iload_n 1, 1) := by decide +kernel
theorem dJ0_charAt_5068e_12 : decode cJ0_charAt_5068e 12 = .ok (.invokestatic 495, 3) := by decide +kernel
theorem dJ0_charAt_5068e_15 : decode cJ0_charAt_5068e 15 = .ok (.ireturn, 1) := by decide +kernel
theorem dJ0_charAt_5068e_16 : decode cJ0_charAt_5068e 16 = .ok (.aload_n 0, 1) := by decide +kernel
theorem dJ0_charAt_5068e_17 : decode cJ0_charAt_5068e 17 = .ok (.getfield 9, 3) := by decide +kernel
theorem dJ0_charAt_5068e_20 : decode cJ0_charAt_5068e 20 = .ok (.iload_n 1, 1) := by decide +kernel
theorem dJ0_charAt_5068e_21 : decode cJ0_charAt_5068e 21 = .ok (.invokestatic 498, 3) := by decide +kernel
theorem dJ0_charAt_5068e_24 : decode cJ0_charAt_5068e 24 = .ok (.ireturn, 1) := by decide +kernel
theorem dJ0_getBytes_840e7_0 : decode cJ0_getBytes_840e7 0 = .ok (.aload_n 0, 1) := by decide +kernel
theorem dJ0_getBytes_840e7_1 : decode cJ0_getBytes_840e7 1 = .ok (.invokevirtual 335, 3) := by decide +kernel
theorem dJ0_getBytes_840e7_4 : decode cJ0_getBytes_840e7 4 = .ok (.iload_n 3, 1) := by decide +kernel
theorem dJ0_getBytes_840e7_5 : decode cJ0_getBytes_840e7 5 = .ok (.if_icmp .ne 23, 3) := by decide +kernel
theorem dJ0_getBytes_840e7_8 : decode cJ0_getBytes_840e7 8 = .ok (.aload_n 0, 1) := by decide +kernel
theorem dJ0_getBytes_840e7_9 : decode cJ0_getBytes_840e7 9 = .ok (.getfield 9, 3) := by decide +kernel
theorem dJ0_getBytes_840e7_12 : decode cJ0_getBytes_840e7 12 = .ok (.iconst 0, 1) := by decide +kernel
theorem dJ0_getBytes_840e7_13 : decode cJ0_getBytes_840e7 13 = .ok (.aload_n 1, 1) := by decide +kernel
theorem dJ0_getBytes_840e7_14 : decode cJ0_getBytes_840e7 14 = .ok (.iload_n 2, 1) := by decide +kernel
theorem dJ0_getBytes_840e7_15 : decode cJ0_getBytes_840e7 15 = .ok (.iload_n 3, 1) := by decide +kernel
theorem dJ0_getBytes_840e7_16 : decode cJ0_getBytes_840e7 16 = .ok (.ishl, 1) := by decide +kernel
theorem dJ0_getBytes_840e7_17 : decode cJ0_getBytes_840e7 17 = .ok (.aload_n 0, 1) := by decide +kernel
theorem dJ0_getBytes_840e7_18 : decode cJ0_getBytes_840e7 18 = .ok (.getfield 9, 3) := by decide +kernel
theorem dJ0_getBytes_840e7_21 : decode cJ0_getBytes_840e7 21 = .ok (.arraylength, 1) := by decide +kernel
theorem dJ0_getBytes_840e7_22 : decode cJ0_getBytes_840e7 22 = .ok (.invokestatic 212, 3) := by decide +kernel
theorem dJ0_getBytes_840e7_25 : decode cJ0_getBytes_840e7 25 = .ok (.goto 18, 3) := by decide +kernel
theorem dJ0_getBytes_840e7_28 : decode cJ0_getBytes_840e7 28 = .ok (.aload_n 0, 1) := by decide +kernel
theorem dJ0_getBytes_840e7_29 : decode cJ0_getBytes_840e7 29 = .ok (.getfield 9, 3) := by decide +kernel
theorem dJ0_getBytes_840e7_32 : decode cJ0_getBytes_840e7 32 = .ok (.iconst 0, 1) := by decide +kernel
theorem dJ0_getBytes_840e7_33 : decode cJ0_getBytes_840e7 33 = .ok (.aload_n 1, 1) := by decide +kernel
theorem dJ0_getBytes_840e7_34 : decode cJ0_getBytes_840e7 34 = .ok (.iload_n 2, 1) := by decide +kernel
theorem dJ0_getBytes_840e7_35 : decode cJ0_getBytes_840e7 35 = .ok (.aload_n 0, 1) := by decide +kernel
theorem dJ0_getBytes_840e7_36 : decode cJ0_getBytes_840e7 36 = .ok (.getfield 9, 3) := by decide +kernel
theorem dJ0_getBytes_840e7_39 : decode cJ0_getBytes_840e7 39 = .ok (.arraylength, 1) := by decide +kernel
theorem dJ0_getBytes_840e7_40 : decode cJ0_getBytes_840e7 40 = .ok (.invokestatic 106, 3) := by decide +kernel
theorem dJ0_getBytes_840e7_43 : decode cJ0_getBytes_840e7 43 = .ok (.return_, 1) := by decide +kernel
theorem dJ0_init_db425_0 : decode cJ0_init_db425 0 = .ok (.aload_n 0, 1) := by decide +kernel
theorem dJ0_init_db425_1 : decode cJ0_init_db425 1 = .ok (.invokespecial 1, 3) := by decide +kernel
theorem dJ0_init_db425_4 : decode cJ0_init_db425 4 = .ok (.aload_n 1, 1) := by decide +kernel
theorem dJ0_init_db425_5 : decode cJ0_init_db425 5 = .ok (.invokevirtual 552, 3) := by decide +kernel
theorem dJ0_init_db425_8 : decode cJ0_init_db425 8 = .ok (.astore_n 3, 1) := by decide +kernel
theorem dJ0_init_db425_9 : decode cJ0_init_db425 9 = .ok (.aload_n 1, 1) := by decide +kernel
theorem dJ0_init_db425_10 : decode cJ0_init_db425 10 = .ok (.invokevirtual 549, 3) := by decide +kernel
theorem dJ0_init_db425_13 : decode cJ0_init_db425 13 = .ok (.istore 4, 2) := by decide +kernel
theorem dJ0_init_db425_15 : decode cJ0_init_db425 15 = .ok (.aload_n 1, 1) := by decide +kernel
theorem dJ0_init_db425_16 : decode cJ0_init_db425 16 = .ok (.invokevirtual 1047, 3) := by decide +kernel
theorem dJ0_init_db425_19 : decode cJ0_init_db425 19 = .ok (.ifCond .eq 22, 3) := by decide +kernel
theorem dJ0_init_db425_22 : decode cJ0_init_db425 22 = .ok (.aload_n 0, 1) := by decide +kernel
theorem dJ0_init_db425_23 : decode cJ0_init_db425 23 = .ok (.iconst 0, 1) := by decide +kernel
theorem dJ0_init_db425_24 : decode cJ0_init_db425 24 = .ok (.putfield 15, 3) := by decide +kernel
theorem dJ0_init_db425_27 : decode cJ0_init_db425 27 = .ok (.aload_n 0, 1) := by decide +kernel
theorem dJ0_init_db425_28 : decode cJ0_init_db425 28 = .ok (.aload_n 3, 1) := by decide +kernel
theorem dJ0_init_db425_29 : decode cJ0_init_db425 29 = .ok (.iconst 0, 1) := by decide +kernel
theorem dJ0_init_db425_30 : decode cJ0_init_db425 30 = .ok (.iload 4, 2) := by decide +kernel
theorem dJ0_init_db425_32 : decode cJ0_init_db425 32 = .ok (.invokestatic 54, 3) := by decide +kernel
theorem dJ0_init_db425_35 : decode cJ0_init_db425 35 = .ok (.putfield 9, 3) := by decide +kernel
theorem dJ0_init_db425_38 : decode cJ0_init_db425 38 = .ok (.goto 59, 3) := by decide +kernel
theorem dJ0_init_db425_41 : decode cJ0_init_db425 41 = .ok (.getstatic 38, 3) := by decide +kernel
theorem dJ0_init_db425_44 : decode cJ0_init_db425 44 = .ok (.ifCond .eq 35, 3) := by decide +kernel
theorem dJ0_init_db425_47 : decode cJ0_init_db425 47 = .ok (.aload_n 1, 1) := by decide +kernel
theorem dJ0_init_db425_48 : decode cJ0_init_db425 48 = .ok (.getfield 1048, 3) := by decide +kernel
theorem dJ0_init_db425_51 : decode cJ0_init_db425 51 = .ok (.ifCond .eq 28, 3) := by decide +kernel
theorem dJ0_init_db425_54 : decode cJ0_init_db425 54 = .ok (.aload_n 0, 1) := by decide +kernel
theorem dJ0_init_db425_55 : decode cJ0_init_db425 55 = .ok (.aload_n 3, 1) := by decide +kernel
theorem dJ0_init_db425_56 : decode cJ0_init_db425 56 = .ok (.iconst 0, 1) := by decide +kernel
theorem dJ0_init_db425_57 : decode cJ0_init_db425 57 = .ok (.iload 4, 2) := by decide +kernel
theorem dJ0_init_db425_59 : decode cJ0_init_db425 59 = .ok (.invokestatic 1051, 3) := by decide +kernel
theorem dJ0_init_db425_62 : decode cJ0_init_db425 62 = .ok (.putfield 9, 3) := by decide +kernel
theorem dJ0_init_db425_65 : decode cJ0_init_db425 65 = .ok (.aload_n 0, 1) := by decide +kernel
theorem dJ0_init_db425_66 : decode cJ0_init_db425 66 = .ok (.aload_n 0, 1) := by decide +kernel
theorem dJ0_init_db425_67 : decode cJ0_init_db425 67 = .ok (.getfield 9, 3) := by decide +kernel
theorem dJ0_init_db425_70 : decode cJ0_init_db425 70 = .ok (.iload 4, 2) := by decide +kernel
theorem dJ0_init_db425_72 : decode cJ0_init_db425 72 = .ok (.invokestatic 47, 3) := by decide +kernel
theorem dJ0_init_db425_75 : decode cJ0_init_db425 75 = .ok (.putfield 15, 3) := by decide +kernel
theorem dJ0_init_db425_78 : decode cJ0_init_db425 78 = .ok (.return_, 1) := by decide +kernel
theorem dJ0_init_db425_79 : decode cJ0_init_db425 79 = .ok (.aload_n 0, 1) := by decide +kernel
theorem dJ0_init_db425_80 : decode cJ0_init_db425 80 = .ok (.iconst 1, 1) := by decide +kernel
theorem dJ0_init_db425_81 : decode cJ0_init_db425 81 = .ok (.putfield 15, 3) := by decide +kernel
theorem dJ0_init_db425_84 : decode cJ0_init_db425 84 = .ok (.aload_n 0, 1) := by decide +kernel
theorem dJ0_init_db425_85 : decode cJ0_init_db425 85 = .ok (.aload_n 3, 1) := by decide +kernel
theorem dJ0_init_db425_86 : decode cJ0_init_db425 86 = .ok (.iconst 0, 1) := by decide +kernel
theorem dJ0_init_db425_87 : decode cJ0_init_db425 87 = .ok (.iload 4, 2) := by decide +kernel
theorem dJ0_init_db425_89 : decode cJ0_init_db425 89 = .ok (.iconst 1, 1) := by decide +kernel
theorem dJ0_init_db425_90 : decode cJ0_init_db425 90 = .ok (.ishl, 1) := by decide +kernel
theorem dJ0_init_db425_91 : decode cJ0_init_db425 91 = .ok (.invokestatic 54, 3) := by decide +kernel
theorem dJ0_init_db425_94 : decode cJ0_init_db425 94 = .ok (.putfield 9, 3) := by decide +kernel
theorem dJ0_init_db425_97 : decode cJ0_init_db425 97 = .ok (.return_, 1) := by decide +kernel
theorem dJ0_coder_7d493_0 : decode cJ0_coder_7d493 0 = .ok (.getstatic 38, 3) := by decide +kernel
theorem dJ0_coder_7d493_3 : decode cJ0_coder_7d493 3 = .ok (.ifCond .eq 10, 3) := by decide +kernel
theorem dJ0_coder_7d493_6 : decode cJ0_coder_7d493 6 = .ok (.aload_n 0, 1) := by decide +kernel
theorem dJ0_coder_7d493_7 : decode cJ0_coder_7d493 7 = .ok (.getfield 15, 3) := by decide +kernel
theorem dJ0_coder_7d493_10 : decode cJ0_coder_7d493 10 = .ok (.goto 4, 3) := by decide +kernel
theorem dJ0_coder_7d493_13 : decode cJ0_coder_7d493 13 = .ok (.iconst 1, 1) := by decide +kernel
theorem dJ0_coder_7d493_14 : decode cJ0_coder_7d493 14 = .ok (.ireturn, 1) := by decide +kernel
theorem dJ0_isLatin1_aae02_0 : decode cJ0_isLatin1_aae02 0 = .ok (.getstatic 38, 3) := by decide +kernel
theorem dJ0_isLatin1_aae02_3 : decode cJ0_isLatin1_aae02 3 = .ok (.ifCond .eq 14, 3) := by decide +kernel
theorem dJ0_isLatin1_aae02_6 : decode cJ0_isLatin1_aae02 6 = .ok (.aload_n 0, 1) := by decide +kernel
theorem dJ0_isLatin1_aae02_7 : decode cJ0_isLatin1_aae02 7 = .ok (.getfield 15, 3) := by decide +kernel
theorem dJ0_isLatin1_aae02_10 : decode cJ0_isLatin1_aae02 10 = .ok (.ifCond .ne 7, 3) := by decide +kernel
theorem dJ0_isLatin1_aae02_13 : decode cJ0_isLatin1_aae02 13 = .ok (.iconst 1, 1) := by decide +kernel
theorem dJ0_isLatin1_aae02_14 : decode cJ0_isLatin1_aae02 14 = .ok (.goto 4, 3) := by decide +kernel
theorem dJ0_isLatin1_aae02_17 : decode cJ0_isLatin1_aae02 17 = .ok (.iconst 0, 1) := by decide +kernel
theorem dJ0_isLatin1_aae02_18 : decode cJ0_isLatin1_aae02 18 = .ok (.ireturn, 1) := by decide +kernel
theorem dJ0_checkIndex_df160_0 : decode cJ0_checkIndex_df160 0 = .ok (.iload_n 0, 1) := by decide +kernel
theorem dJ0_checkIndex_df160_1 : decode cJ0_checkIndex_df160 1 = .ok (.iload_n 1, 1) := by decide +kernel
theorem dJ0_checkIndex_df160_2 : decode cJ0_checkIndex_df160 2 = .ok (.getstatic 1053, 3) := by decide +kernel
theorem dJ0_checkIndex_df160_5 : decode cJ0_checkIndex_df160 5 = .ok (.invokestatic 1059, 3) := by decide +kernel
theorem dJ0_checkIndex_df160_8 : decode cJ0_checkIndex_df160 8 = .ok (.pop, 1) := by decide +kernel
theorem dJ0_checkIndex_df160_9 : decode cJ0_checkIndex_df160 9 = .ok (.return_, 1) := by decide +kernel
theorem dJ0_checkBoundsOffCount_cabcc_0 : decode cJ0_checkBoundsOffCount_cabcc 0 = .ok (.iload_n 0, 1) := by decide +kernel
theorem dJ0_checkBoundsOffCount_cabcc_1 : decode cJ0_checkBoundsOffCount_cabcc 1 = .ok (.iload_n 1, 1) := by decide +kernel
theorem dJ0_checkBoundsOffCount_cabcc_2 : decode cJ0_checkBoundsOffCount_cabcc 2 = .ok (.iload_n 2, 1) := by decide +kernel
theorem dJ0_checkBoundsOffCount_cabcc_3 : decode cJ0_checkBoundsOffCount_cabcc 3 = .ok (.getstatic 1053, 3) := by decide +kernel
theorem dJ0_checkBoundsOffCount_cabcc_6 : decode cJ0_checkBoundsOffCount_cabcc 6 = .ok (.invokestatic 1065, 3) := by decide +kernel
theorem dJ0_checkBoundsOffCount_cabcc_9 : decode cJ0_checkBoundsOffCount_cabcc 9 = .ok (.ireturn, 1) := by decide +kernel
theorem dJ0_checkBoundsBeginEnd_23922_0 : decode cJ0_checkBoundsBeginEnd_23922 0 = .ok (.iload_n 0, 1) := by decide +kernel
theorem dJ0_checkBoundsBeginEnd_23922_1 : decode cJ0_checkBoundsBeginEnd_23922 1 = .ok (.iload_n 1, 1) := by decide +kernel
theorem dJ0_checkBoundsBeginEnd_23922_2 : decode cJ0_checkBoundsBeginEnd_23922 2 = .ok (.iload_n 2, 1) := by decide +kernel
theorem dJ0_checkBoundsBeginEnd_23922_3 : decode cJ0_checkBoundsBeginEnd_23922 3 = .ok (.getstatic 1053, 3) := by decide +kernel
theorem dJ0_checkBoundsBeginEnd_23922_6 : decode cJ0_checkBoundsBeginEnd_23922 6 = .ok (.invokestatic 1062, 3) := by decide +kernel
theorem dJ0_checkBoundsBeginEnd_23922_9 : decode cJ0_checkBoundsBeginEnd_23922 9 = .ok (.pop, 1) := by decide +kernel
theorem dJ0_checkBoundsBeginEnd_23922_10 : decode cJ0_checkBoundsBeginEnd_23922 10 = .ok (.return_, 1) := by decide +kernel
theorem dJ4_init_da8c8_0 : decode cJ4_init_da8c8 0 = .ok (.aload_n 0, 1) := by decide +kernel
theorem dJ4_init_da8c8_1 : decode cJ4_init_da8c8 1 = .ok (.bipush 16, 2) := by decide +kernel
theorem dJ4_init_da8c8_3 : decode cJ4_init_da8c8 3 = .ok (.invokespecial 1, 3) := by decide +kernel
theorem dJ4_init_da8c8_6 : decode cJ4_init_da8c8 6 = .ok (.return_, 1) := by decide +kernel
theorem dJ4_append_15ec4_0 : decode cJ4_append_15ec4 0 = .ok (.aload_n 0, 1) := by decide +kernel
theorem dJ4_append_15ec4_1 : decode cJ4_append_15ec4 1 = .ok (.aload_n 1, 1) := by decide +kernel
theorem dJ4_append_15ec4_2 : decode cJ4_append_15ec4 2 = .ok (.invokespecial 29, 3) := by decide +kernel
theorem dJ4_append_15ec4_5 : decode cJ4_append_15ec4 5 = .ok (.pop, 1) := by decide +kernel
theorem dJ4_append_15ec4_6 : decode cJ4_append_15ec4 6 = .ok (.aload_n 0, 1) := by decide +kernel
theorem dJ4_append_15ec4_7 : decode cJ4_append_15ec4 7 = .ok (.areturn, 1) := by decide +kernel
theorem dJ4_append_cf468_0 : decode cJ4_append_cf468 0 = .ok (.aload_n 0, 1) := by decide +kernel
theorem dJ4_append_cf468_1 : decode cJ4_append_cf468 1 = .ok (.iload_n 1, 1) := by decide +kernel
theorem dJ4_append_cf468_2 : decode cJ4_append_cf468 2 = .ok (.invokespecial 50, 3) := by decide +kernel
theorem dJ4_append_cf468_5 : decode cJ4_append_cf468 5 = .ok (.pop, 1) := by decide +kernel
theorem dJ4_append_cf468_6 : decode cJ4_append_cf468 6 = .ok (.aload_n 0, 1) := by decide +kernel
theorem dJ4_append_cf468_7 : decode cJ4_append_cf468 7 = .ok (.areturn, 1) := by decide +kernel
theorem dJ4_append_bf812_0 : decode cJ4_append_bf812 0 = .ok (.aload_n 0, 1) := by decide +kernel
theorem dJ4_append_bf812_1 : decode cJ4_append_bf812 1 = .ok (.iload_n 1, 1) := by decide +kernel
theorem dJ4_append_bf812_2 : decode cJ4_append_bf812 2 = .ok (.invokespecial 53, 3) := by decide +kernel
theorem dJ4_append_bf812_5 : decode cJ4_append_bf812 5 = .ok (.pop, 1) := by decide +kernel
theorem dJ4_append_bf812_6 : decode cJ4_append_bf812 6 = .ok (.aload_n 0, 1) := by decide +kernel
theorem dJ4_append_bf812_7 : decode cJ4_append_bf812 7 = .ok (.areturn, 1) := by decide +kernel
theorem dJ4_toString_0e30d_0 : decode cJ4_toString_0e30d 0 = .ok (.new 18, 3) := by decide +kernel
theorem dJ4_toString_0e30d_3 : decode cJ4_toString_0e30d 3 = .ok (.dup, 1) := by decide +kernel
theorem dJ4_toString_0e30d_4 : decode cJ4_toString_0e30d 4 = .ok (.aload_n 0, 1) := by decide +kernel
theorem dJ4_toString_0e30d_5 : decode cJ4_toString_0e30d 5 = .ok (.invokespecial 137, 3) := by decide +kernel
theorem dJ4_toString_0e30d_8 : decode cJ4_toString_0e30d 8 = .ok (.areturn, 1) := by decide +kernel
theorem dJ4_charAt_5068e_0 : decode cJ4_charAt_5068e 0 = .ok (.aload_n 0, 1) := by decide +kernel
theorem dJ4_charAt_5068e_1 : decode cJ4_charAt_5068e 1 = .ok (.iload_n 1, 1) := by decide +kernel
theorem dJ4_charAt_5068e_2 : decode cJ4_charAt_5068e 2 = .ok (.invokespecial 329, 3) := by decide +kernel
theorem dJ4_charAt_5068e_5 : decode cJ4_charAt_5068e 5 = .ok (.ireturn, 1) := by decide +kernel
theorem dJ4_setLength_d00df_0 : decode cJ4_setLength_d00df 0 = .ok (.aload_n 0, 1) := by decide +kernel
theorem dJ4_setLength_d00df_1 : decode cJ4_setLength_d00df 1 = .ok (.iload_n 1, 1) := by decide +kernel
theorem dJ4_setLength_d00df_2 : decode cJ4_setLength_d00df 2 = .ok (.invokespecial 333, 3) := by decide +kernel
theorem dJ4_setLength_d00df_5 : decode cJ4_setLength_d00df 5 = .ok (.return_, 1) := by decide +kernel
theorem dJ4_length_8abf5_0 : decode cJ4_length_8abf5 0 = .ok (.aload_n 0, 1) := by decide +kernel
theorem dJ4_length_8abf5_1 : decode cJ4_length_8abf5 1 = .ok (.invokespecial 343, 3) := by decide +kernel
theorem dJ4_length_8abf5_4 : decode cJ4_length_8abf5 4 = .ok (.ireturn, 1) := by decide +kernel
theorem dJx7c733_init_d00df_0 : decode cJx7c733_init_d00df 0 = .ok (.aload_n 0, 1) := by decide +kernel
theorem dJx7c733_init_d00df_1 : decode cJx7c733_init_d00df 1 = .ok (.new 10, 3) := by decide +kernel
theorem dJx7c733_init_d00df_4 : decode cJx7c733_init_d00df 4 = .ok (.dup, 1) := by decide +kernel
theorem dJx7c733_init_d00df_5 : decode cJx7c733_init_d00df 5 = .ok (.invokespecial 12, 3) := by decide +kernel
theorem dJx7c733_init_d00df_8 : decode cJx7c733_init_d00df 8 = .ok (.ldc 13, 2) := by decide +kernel
theorem dJx7c733_init_d00df_10 : decode cJx7c733_init_d00df 10 = .ok (.invokevirtual 15, 3) := by decide +kernel
theorem dJx7c733_init_d00df_13 : decode cJx7c733_init_d00df 13 = .ok (.iload_n 1, 1) := by decide +kernel
theorem dJx7c733_init_d00df_14 : decode cJx7c733_init_d00df 14 = .ok (.invokevirtual 19, 3) := by decide +kernel
theorem dJx7c733_init_d00df_17 : decode cJx7c733_init_d00df 17 = .ok (.invokevirtual 22, 3) := by decide +kernel
theorem dJx7c733_init_d00df_20 : decode cJx7c733_init_d00df 20 = .ok (.invokespecial 7, 3) := by decide +kernel
theorem dJx7c733_init_d00df_23 : decode cJx7c733_init_d00df 23 = .ok (.return_, 1) := by decide +kernel
theorem dJ1_charAt_3b067_0 : decode cJ1_charAt_3b067 0 = .ok (.iload_n 1, 1) := by decide +kernel
theorem dJ1_charAt_3b067_1 : decode cJ1_charAt_3b067 1 = .ok (.aload_n 0, 1) := by decide +kernel
theorem dJ1_charAt_3b067_2 : decode cJ1_charAt_3b067 2 = .ok (.arraylength, 1) := by decide +kernel
theorem dJ1_charAt_3b067_3 : decode cJ1_charAt_3b067 3 = .ok (.invokestatic 9, 3) := by decide +kernel
theorem dJ1_charAt_3b067_6 : decode cJ1_charAt_3b067 6 = .ok (.aload_n 0, 1) := by decide +kernel
theorem dJ1_charAt_3b067_7 : decode cJ1_charAt_3b067 7 = .ok (.iload_n 1, 1) := by decide +kernel
theorem dJ1_charAt_3b067_8 : decode cJ1_charAt_3b067 8 = .ok (.baload, 1) := by decide +kernel
theorem dJ1_charAt_3b067_9 : decode cJ1_charAt_3b067 9 = .ok (.sipush 255, 3) := by decide +kernel
theorem dJ1_charAt_3b067_12 : decode cJ1_charAt_3b067 12 = .ok (.iand, 1) := by decide +kernel
theorem dJ1_charAt_3b067_13 : decode cJ1_charAt_3b067 13 = .ok (.i2c, 1) := by decide +kernel
theorem dJ1_charAt_3b067_14 : decode cJ1_charAt_3b067 14 = .ok (.ireturn, 1) := by decide +kernel
theorem dJ1_canEncode_fc78d_0 : decode cJ1_canEncode_fc78d 0 = .ok (.iload_n 0, 1) := by decide +kernel
theorem dJ1_canEncode_fc78d_1 : decode cJ1_canEncode_fc78d 1 = .ok (.sipush 255, 3) := by decide +kernel
theorem dJ1_canEncode_fc78d_4 : decode cJ1_canEncode_fc78d 4 = .ok (.if_icmp .gt 7, 3) := by decide +kernel
theorem dJ1_canEncode_fc78d_7 : decode cJ1_canEncode_fc78d 7 = .ok (.iconst 1, 1) := by decide +kernel
theorem dJ1_canEncode_fc78d_8 : decode cJ1_canEncode_fc78d 8 = .ok (.goto 4, 3) := by decide +kernel
theorem dJ1_canEncode_fc78d_11 : decode cJ1_canEncode_fc78d 11 = .ok (.iconst 0, 1) := by decide +kernel
theorem dJ1_canEncode_fc78d_12 : decode cJ1_canEncode_fc78d 12 = .ok (.ireturn, 1) := by decide +kernel
theorem dJ1_fillNull_b72d1_0 : decode cJ1_fillNull_b72d1 0 = .ok (.aload_n 0, 1) := by decide +kernel
theorem dJ1_fillNull_b72d1_1 : decode cJ1_fillNull_b72d1 1 = .ok (.iload_n 1, 1) := by decide +kernel
theorem dJ1_fillNull_b72d1_2 : decode cJ1_fillNull_b72d1 2 = .ok (.iload_n 2, 1) := by decide +kernel
theorem dJ1_fillNull_b72d1_3 : decode cJ1_fillNull_b72d1 3 = .ok (.iconst 0, 1) := by decide +kernel
theorem dJ1_fillNull_b72d1_4 : decode cJ1_fillNull_b72d1 4 = .ok (.invokestatic 236, 3) := by decide +kernel
theorem dJ1_fillNull_b72d1_7 : decode cJ1_fillNull_b72d1 7 = .ok (.return_, 1) := by decide +kernel
theorem dJ1_inflate_0e8fd_0 : decode cJ1_inflate_0e8fd 0 = .ok (.aload_n 0, 1) := by decide +kernel
theorem dJ1_inflate_0e8fd_1 : decode cJ1_inflate_0e8fd 1 = .ok (.iload_n 1, 1) := by decide +kernel
theorem dJ1_inflate_0e8fd_2 : decode cJ1_inflate_0e8fd 2 = .ok (.aload_n 2, 1) := by decide +kernel
theorem dJ1_inflate_0e8fd_3 : decode cJ1_inflate_0e8fd 3 = .ok (.iload_n 3, 1) := by decide +kernel
theorem dJ1_inflate_0e8fd_4 : decode cJ1_inflate_0e8fd 4 = .ok (.iload 4, 2) := by decide +kernel
theorem dJ1_inflate_0e8fd_6 : decode cJ1_inflate_0e8fd 6 = .ok (.invokestatic 240, 3) := by decide +kernel
theorem dJ1_inflate_0e8fd_9 : decode cJ1_inflate_0e8fd 9 = .ok (.return_, 1) := by decide +kernel
theorem dJ2_newBytesFor_77867_0 : decode cJ2_newBytesFor_77867 0 = .ok (.iload_n 0, 1) := by decide +kernel
theorem dJ2_newBytesFor_77867_1 : decode cJ2_newBytesFor_77867 1 = .ok (.invokestatic 11, 3) := by decide +kernel
theorem dJ2_newBytesFor_77867_4 : decode cJ2_newBytesFor_77867 4 = .ok (.newarray .byte, 2) := by decide +kernel
theorem dJ2_newBytesFor_77867_6 : decode cJ2_newBytesFor_77867 6 = .ok (.areturn, 1) := by decide +kernel
theorem dJ2_newBytesLength_0f7a4_0 : decode cJ2_newBytesLength_0f7a4 0 = .ok (.iload_n 0, 1) := by decide +kernel
theorem dJ2_newBytesLength_0f7a4_1 : decode cJ2_newBytesLength_0f7a4 1 = .ok (.ifCond .ge 11, 3) := by decide +kernel
theorem dJ2_newBytesLength_0f7a4_4 : decode cJ2_newBytesLength_0f7a4 4 = .ok (.new 17, 3) := by decide +kernel
theorem dJ2_newBytesLength_0f7a4_7 : decode cJ2_newBytesLength_0f7a4 7 = .ok (.dup, 1) := by decide +kernel
theorem dJ2_newBytesLength_0f7a4_8 : decode cJ2_newBytesLength_0f7a4 8 = .ok (.invokespecial 19, 3) := by decide +kernel
theorem dJ2_newBytesLength_0f7a4_11 : decode cJ2_newBytesLength_0f7a4 11 = .ok (.athrow, 1) := by decide +kernel
theorem dJ2_newBytesLength_0f7a4_12 : decode cJ2_newBytesLength_0f7a4 12 = .ok (.iload_n 0, 1) := by decide +kernel
theorem dJ2_newBytesLength_0f7a4_13 : decode cJ2_newBytesLength_0f7a4 13 = .ok (.ldc 20, 2) := by decide +kernel
theorem dJ2_newBytesLength_0f7a4_15 : decode cJ2_newBytesLength_0f7a4 15 = .ok (.if_icmp .lt 40, 3) := by decide +kernel
theorem dJ2_newBytesLength_0f7a4_18 : decode cJ2_newBytesLength_0f7a4 18 = .ok (.new 21, 3) := by decide +kernel
theorem dJ2_newBytesLength_0f7a4_21 : decode cJ2_newBytesLength_0f7a4 21 = .ok (.dup, 1) := by decide +kernel
theorem dJ2_newBytesLength_0f7a4_22 : decode cJ2_newBytesLength_0f7a4 22 = .ok (.new 23, 3) := by decide +kernel
theorem dJ2_newBytesLength_0f7a4_25 : decode cJ2_newBytesLength_0f7a4 25 = .ok (.dup, 1) := by decide +kernel
theorem dJ2_newBytesLength_0f7a4_26 : decode cJ2_newBytesLength_0f7a4 26 = .ok (.invokespecial 25, 3) := by decide +kernel
theorem dJ2_newBytesLength_0f7a4_29 : decode cJ2_newBytesLength_0f7a4 29 = .ok (.ldc 26, 2) := by decide +kernel
theorem dJ2_newBytesLength_0f7a4_31 : decode cJ2_newBytesLength_0f7a4 31 = .ok (.invokevirtual 28, 3) := by decide +kernel
theorem dJ2_newBytesLength_0f7a4_34 : decode cJ2_newBytesLength_0f7a4 34 = .ok (.iload_n 0, 1) := by decide +kernel
theorem dJ2_newBytesLength_0f7a4_35 : decode cJ2_newBytesLength_0f7a4 35 = .ok (.invokevirtual 32, 3) := by decide +kernel
theorem dJ2_newBytesLength_0f7a4_38 : decode cJ2_newBytesLength_0f7a4 38 = .ok (.ldc 35, 2) := by decide +kernel
theorem dJ2_newBytesLength_0f7a4_40 : decode cJ2_newBytesLength_0f7a4 40 = .ok (.invokevirtual 28, 3) := by decide +kernel
theorem dJ2_newBytesLength_0f7a4_43 : decode cJ2_newBytesLength_0f7a4 43 = .ok (.ldc 20, 2) := by decide +kernel
theorem dJ2_newBytesLength_0f7a4_45 : decode cJ2_newBytesLength_0f7a4 45 = .ok (.invokevirtual 32, 3) := by decide +kernel
theorem dJ2_newBytesLength_0f7a4_48 : decode cJ2_newBytesLength_0f7a4 48 = .ok (.invokevirtual 37, 3) := by decide +kernel
theorem dJ2_newBytesLength_0f7a4_51 : decode cJ2_newBytesLength_0f7a4 51 = .ok (.invokespecial 41, 3) := by decide +kernel
theorem dJ2_newBytesLength_0f7a4_54 : decode cJ2_newBytesLength_0f7a4 54 = .ok (.athrow, 1) := by decide +kernel
theorem dJ2_newBytesLength_0f7a4_55 : decode cJ2_newBytesLength_0f7a4 55 = .ok (.iload_n 0, 1) := by decide +kernel
theorem dJ2_newBytesLength_0f7a4_56 : decode cJ2_newBytesLength_0f7a4 56 = .ok (.iconst 1, 1) := by decide +kernel
theorem dJ2_newBytesLength_0f7a4_57 : decode cJ2_newBytesLength_0f7a4 57 = .ok (.ishl, 1) := by decide +kernel
theorem dJ2_newBytesLength_0f7a4_58 : decode cJ2_newBytesLength_0f7a4 58 = .ok (.ireturn, 1) := by decide +kernel
theorem dJ2_putChar_b72d1_0 : decode cJ2_putChar_b72d1 0 = .ok (.getstatic 44, 3) := by decide +kernel
theorem dJ2_putChar_b72d1_3 : decode cJ2_putChar_b72d1 3 = .ok (.ifCond .ne 25, 3) := by decide +kernel
theorem dJ2_putChar_b72d1_6 : decode cJ2_putChar_b72d1 6 = .ok (.iload_n 1, 1) := by decide +kernel
theorem dJ2_putChar_b72d1_7 : decode cJ2_putChar_b72d1 7 = .ok (.ifCond .lt 11, 3) := by decide +kernel
theorem dJ2_putChar_b72d1_10 : decode cJ2_putChar_b72d1 10 = .ok (.iload_n 1, 1) := by decide +kernel
theorem dJ2_putChar_b72d1_11 : decode cJ2_putChar_b72d1 11 = .ok (.aload_n 0, 1) := by decide +kernel
theorem dJ2_putChar_b72d1_12 : decode cJ2_putChar_b72d1 12 = .ok (.invokestatic 48, 3) := by decide +kernel
theorem dJ2_putChar_b72d1_15 : decode cJ2_putChar_b72d1 15 = .ok (.if_icmp .lt 13, 3) := by decide +kernel
theorem dJ2_putChar_b72d1_18 : decode cJ2_putChar_b72d1 18 = .ok (.new 52, 3) := by decide +kernel
theorem dJ2_putChar_b72d1_21 : decode cJ2_putChar_b72d1 21 = .ok (.dup, 1) := by decide +kernel
theorem dJ2_putChar_b72d1_22 : decode cJ2_putChar_b72d1 22 = .ok (.ldc 54, 2) := by decide +kernel
theorem dJ2_putChar_b72d1_24 : decode cJ2_putChar_b72d1 24 = .ok (.invokespecial 56, 3) := by decide +kernel
theorem dJ2_putChar_b72d1_27 : decode cJ2_putChar_b72d1 27 = .ok (.athrow, 1) := by decide +kernel
theorem dJ2_putChar_b72d1_28 : decode cJ2_putChar_b72d1 28 = .ok (.iload_n 1, 1) := by decide +kernel
theorem dJ2_putChar_b72d1_29 : decode cJ2_putChar_b72d1 29 = .ok (.iconst 1, 1) := by decide +kernel
theorem dJ2_putChar_b72d1_30 : decode cJ2_putChar_b72d1 30 = .ok (.ishl, 1) := by decide +kernel
theorem dJ2_putChar_b72d1_31 : decode cJ2_putChar_b72d1 31 = .ok (.istore_n 1, 1) := by decide +kernel
theorem dJ2_putChar_b72d1_32 : decode cJ2_putChar_b72d1 32 = .ok (.aload_n 0, 1) := by decide +kernel
theorem dJ2_putChar_b72d1_33 : decode cJ2_putChar_b72d1 33 = .ok (.iload_n 1, 1) := by decide +kernel
theorem dJ2_putChar_b72d1_34 : decode cJ2_putChar_b72d1 34 = .ok (.iinc 1 1, 3) := by decide +kernel
theorem dJ2_putChar_b72d1_37 : decode cJ2_putChar_b72d1 37 = .ok (.iload_n 2, 1) := by decide +kernel
theorem dJ2_putChar_b72d1_38 : decode cJ2_putChar_b72d1 38 = .ok (.getstatic 59, 3) := by decide +kernel
theorem dJ2_putChar_b72d1_41 : decode cJ2_putChar_b72d1 41 = .ok (.ishr, 1) := by decide +kernel
theorem dJ2_putChar_b72d1_42 : decode cJ2_putChar_b72d1 42 = .ok (.i2b, 1) := by decide +kernel
theorem dJ2_putChar_b72d1_43 : decode cJ2_putChar_b72d1 43 = .ok (.bastore, 1) := by decide +kernel
theorem dJ2_putChar_b72d1_44 : decode cJ2_putChar_b72d1 44 = .ok (.aload_n 0, 1) := by decide +kernel
theorem dJ2_putChar_b72d1_45 : decode cJ2_putChar_b72d1 45 = .ok (.iload_n 1, 1) := by decide +kernel
theorem dJ2_putChar_b72d1_46 : decode cJ2_putChar_b72d1 46 = .ok (.iload_n 2, 1) := by decide +kernel
theorem dJ2_putChar_b72d1_47 : decode cJ2_putChar_b72d1 47 = .ok (.getstatic 63, 3) := by decide +kernel
theorem dJ2_putChar_b72d1_50 : decode cJ2_putChar_b72d1 50 = .ok (.ishr, 1) := by decide +kernel
theorem dJ2_putChar_b72d1_51 : decode cJ2_putChar_b72d1 51 = .ok (.i2b, 1) := by decide +kernel
theorem dJ2_putChar_b72d1_52 : decode cJ2_putChar_b72d1 52 = .ok (.bastore, 1) := by decide +kernel
theorem dJ2_putChar_b72d1_53 : decode cJ2_putChar_b72d1 53 = .ok (.return_, 1) := by decide +kernel
theorem dJ2_getChar_3b067_0 : decode cJ2_getChar_3b067 0 = .ok (.getstatic 44, 3) := by decide +kernel
theorem dJ2_getChar_3b067_3 : decode cJ2_getChar_3b067 3 = .ok (.ifCond .ne 25, 3) := by decide +kernel
theorem dJ2_getChar_3b067_6 : decode cJ2_getChar_3b067 6 = .ok (.iload_n 1, 1) := by decide +kernel
theorem dJ2_getChar_3b067_7 : decode cJ2_getChar_3b067 7 = .ok (.ifCond .lt 11, 3) := by decide +kernel
theorem dJ2_getChar_3b067_10 : decode cJ2_getChar_3b067 10 = .ok (.iload_n 1, 1) := by decide +kernel
theorem dJ2_getChar_3b067_11 : decode cJ2_getChar_3b067 11 = .ok (.aload_n 0, 1) := by decide +kernel
theorem dJ2_getChar_3b067_12 : decode cJ2_getChar_3b067 12 = .ok (.invokestatic 48, 3) := by decide +kernel
theorem dJ2_getChar_3b067_15 : decode cJ2_getChar_3b067 15 = .ok (.if_icmp .lt 13, 3) := by decide +kernel
theorem dJ2_getChar_3b067_18 : decode cJ2_getChar_3b067 18 = .ok (.new 52, 3) := by decide +kernel
theorem dJ2_getChar_3b067_21 : decode cJ2_getChar_3b067 21 = .ok (.dup, 1) := by decide +kernel
theorem dJ2_getChar_3b067_22 : decode cJ2_getChar_3b067 22 = .ok (.ldc 54, 2) := by decide +kernel
theorem dJ2_getChar_3b067_24 : decode cJ2_getChar_3b067 24 = .ok (.invokespecial 56, 3) := by decide +kernel
theorem dJ2_getChar_3b067_27 : decode cJ2_getChar_3b067 27 = .ok (.athrow, 1) := by decide +kernel
theorem dJ2_getChar_3b067_28 : decode cJ2_getChar_3b067 28 = .ok (.iload_n 1, 1) := by decide +kernel
theorem dJ2_getChar_3b067_29 : decode cJ2_getChar_3b067 29 = .ok (.iconst 1, 1) := by decide +kernel
theorem dJ2_getChar_3b067_30 : decode cJ2_getChar_3b067 30 = .ok (.ishl, 1) := by decide +kernel
theorem dJ2_getChar_3b067_31 : decode cJ2_getChar_3b067 31 = .ok (.istore_n 1, 1) := by decide +kernel
theorem dJ2_getChar_3b067_32 : decode cJ2_getChar_3b067 32 = .ok (.aload_n 0, 1) := by decide +kernel
theorem dJ2_getChar_3b067_33 : decode cJ2_getChar_3b067 33 = .ok (.iload_n 1, 1) := by decide +kernel
theorem dJ2_getChar_3b067_34 : decode cJ2_getChar_3b067 34 = .ok (.iinc 1 1, 3) := by decide +kernel
theorem dJ2_getChar_3b067_37 : decode cJ2_getChar_3b067 37 = .ok (.baload, 1) := by decide +kernel
theorem dJ2_getChar_3b067_38 : decode cJ2_getChar_3b067 38 = .ok (.sipush 255, 3) := by decide +kernel
theorem dJ2_getChar_3b067_41 : decode cJ2_getChar_3b067 41 = .ok (.iand, 1) := by decide +kernel
theorem dJ2_getChar_3b067_42 : decode cJ2_getChar_3b067 42 = .ok (.getstatic 59, 3) := by decide +kernel
theorem dJ2_getChar_3b067_45 : decode cJ2_getChar_3b067 45 = .ok (.ishl, 1) := by decide +kernel
theorem dJ2_getChar_3b067_46 : decode cJ2_getChar_3b067 46 = .ok (.aload_n 0, 1) := by decide +kernel
theorem dJ2_getChar_3b067_47 : decode cJ2_getChar_3b067 47 = .ok (.iload_n 1, 1) := by decide +kernel
theorem dJ2_getChar_3b067_48 : decode cJ2_getChar_3b067 48 = .ok (.baload, 1) := by decide +kernel
theorem dJ2_getChar_3b067_49 : decode cJ2_getChar_3b067 49 = .ok (.sipush 255, 3) := by decide +kernel
theorem dJ2_getChar_3b067_52 : decode cJ2_getChar_3b067 52 = .ok (.iand, 1) := by decide +kernel
theorem dJ2_getChar_3b067_53 : decode cJ2_getChar_3b067 53 = .ok (.getstatic 63, 3) := by decide +kernel
theorem dJ2_getChar_3b067_56 : decode cJ2_getChar_3b067 56 = .ok (.ishl, 1) := by decide +kernel
theorem dJ2_getChar_3b067_57 : decode cJ2_getChar_3b067 57 = .ok (.ior, 1) := by decide +kernel
theorem dJ2_getChar_3b067_58 : decode cJ2_getChar_3b067 58 = .ok (.i2c, 1) := by decide +kernel
theorem dJ2_getChar_3b067_59 : decode cJ2_getChar_3b067 59 = .ok (.ireturn, 1) := by decide +kernel
theorem dJ2_length_9d52b_0 : decode cJ2_length_9d52b 0 = .ok (.aload_n 0, 1) := by decide +kernel
theorem dJ2_length_9d52b_1 : decode cJ2_length_9d52b 1 = .ok (.arraylength, 1) := by decide +kernel
theorem dJ2_length_9d52b_2 : decode cJ2_length_9d52b 2 = .ok (.iconst 1, 1) := by decide +kernel
theorem dJ2_length_9d52b_3 : decode cJ2_length_9d52b 3 = .ok (.ishr, 1) := by decide +kernel
theorem dJ2_length_9d52b_4 : decode cJ2_length_9d52b 4 = .ok (.ireturn, 1) := by decide +kernel
theorem dJ2_coderFromArrayLen_85cad_0 : decode cJ2_coderFromArrayLen_85cad 0 = .ok (.iload_n 1, 1) := by decide +kernel
theorem dJ2_coderFromArrayLen_85cad_1 : decode cJ2_coderFromArrayLen_85cad 1 = .ok (.aload_n 0, 1) := by decide +kernel
theorem dJ2_coderFromArrayLen_85cad_2 : decode cJ2_coderFromArrayLen_85cad 2 = .ok (.arraylength, 1) := by decide +kernel
theorem dJ2_coderFromArrayLen_85cad_3 : decode cJ2_coderFromArrayLen_85cad 3 = .ok (.isub, 1) := by decide +kernel
theorem dJ2_coderFromArrayLen_85cad_4 : decode cJ2_coderFromArrayLen_85cad 4 = .ok (.bipush 31, 2) := by decide +kernel
theorem dJ2_coderFromArrayLen_85cad_6 : decode cJ2_coderFromArrayLen_85cad 6 = .ok (.iushr, 1) := by decide +kernel
theorem dJ2_coderFromArrayLen_85cad_7 : decode cJ2_coderFromArrayLen_85cad 7 = .ok (.i2b, 1) := by decide +kernel
theorem dJ2_coderFromArrayLen_85cad_8 : decode cJ2_coderFromArrayLen_85cad 8 = .ok (.ireturn, 1) := by decide +kernel
theorem dJ2_compress_39247_0 : decode cJ2_compress_39247 0 = .ok (.iload_n 2, 1) := by decide +kernel
theorem dJ2_compress_39247_1 : decode cJ2_compress_39247 1 = .ok (.newarray .byte, 2) := by decide +kernel
theorem dJ2_compress_39247_3 : decode cJ2_compress_39247 3 = .ok (.astore_n 3, 1) := by decide +kernel
theorem dJ2_compress_39247_4 : decode cJ2_compress_39247 4 = .ok (.aload_n 0, 1) := by decide +kernel
theorem dJ2_compress_39247_5 : decode cJ2_compress_39247 5 = .ok (.iload_n 1, 1) := by decide +kernel
theorem dJ2_compress_39247_6 : decode cJ2_compress_39247 6 = .ok (.aload_n 3, 1) := by decide +kernel
theorem dJ2_compress_39247_7 : decode cJ2_compress_39247 7 = .ok (.iconst 0, 1) := by decide +kernel
theorem dJ2_compress_39247_8 : decode cJ2_compress_39247 8 = .ok (.iload_n 2, 1) := by decide +kernel
theorem dJ2_compress_39247_9 : decode cJ2_compress_39247 9 = .ok (.invokestatic 123, 3) := by decide +kernel
theorem dJ2_compress_39247_12 : decode cJ2_compress_39247 12 = .ok (.istore 4, 2) := by decide +kernel
theorem dJ2_compress_39247_14 : decode cJ2_compress_39247 14 = .ok (.iload 4, 2) := by decide +kernel
theorem dJ2_compress_39247_16 : decode cJ2_compress_39247 16 = .ok (.iload_n 2, 1) := by decide +kernel
theorem dJ2_compress_39247_17 : decode cJ2_compress_39247 17 = .ok (.if_icmp .eq 47, 3) := by decide +kernel
theorem dJ2_compress_39247_20 : decode cJ2_compress_39247 20 = .ok (.aload_n 0, 1) := by decide +kernel
theorem dJ2_compress_39247_21 : decode cJ2_compress_39247 21 = .ok (.iload_n 1, 1) := by decide +kernel
theorem dJ2_compress_39247_22 : decode cJ2_compress_39247 22 = .ok (.iconst 1, 1) := by decide +kernel
theorem dJ2_compress_39247_23 : decode cJ2_compress_39247 23 = .ok (.ishl, 1) := by decide +kernel
theorem dJ2_compress_39247_24 : decode cJ2_compress_39247 24 = .ok (.iload_n 1, 1) := by decide +kernel
theorem dJ2_compress_39247_25 : decode cJ2_compress_39247 25 = .ok (.iload_n 2, 1) := by decide +kernel
theorem dJ2_compress_39247_26 : decode cJ2_compress_39247 26 = .ok (.iadd, 1) := by decide +kernel
theorem dJ2_compress_39247_27 : decode cJ2_compress_39247 27 = .ok (.invokestatic 11, 3) := by decide +kernel
theorem dJ2_compress_39247_30 : decode cJ2_compress_39247 30 = .ok (.invokestatic 126, 3) := by decide +kernel
theorem dJ2_compress_39247_33 : decode cJ2_compress_39247 33 = .ok (.astore 5, 2) := by decide +kernel
theorem dJ2_compress_39247_35 : decode cJ2_compress_39247 35 = .ok (.aload 5, 2) := by decide +kernel
theorem dJ2_compress_39247_37 : decode cJ2_compress_39247 37 = .ok (.iload 4, 2) := by decide +kernel
theorem dJ2_compress_39247_39 : decode cJ2_compress_39247 39 = .ok (.invokestatic 71, 3) := by decide +kernel
theorem dJ2_compress_39247_42 : decode cJ2_compress_39247 42 = .ok (.sipush 255, 3) := by decide +kernel
theorem dJ2_compress_39247_45 : decode cJ2_compress_39247 45 = .ok (.if_icmp .gt 16, 3) := by decide +kernel
theorem dJ2_compress_39247_48 : decode cJ2_compress_39247 48 = .ok (.aload 5, 2) := by decide +kernel
theorem dJ2_compress_39247_50 : decode cJ2_compress_39247 50 = .ok (.iconst 0, 1) := by decide +kernel
theorem dJ2_compress_39247_51 : decode cJ2_compress_39247 51 = .ok (.aload_n 3, 1) := by decide +kernel
theorem dJ2_compress_39247_52 : decode cJ2_compress_39247 52 = .ok (.iconst 0, 1) := by decide +kernel
theorem dJ2_compress_39247_53 : decode cJ2_compress_39247 53 = .ok (.iload_n 2, 1) := by decide +kernel
theorem dJ2_compress_39247_54 : decode cJ2_compress_39247 54 = .ok (.invokestatic 123, 3) := by decide +kernel
theorem dJ2_compress_39247_57 : decode cJ2_compress_39247 57 = .ok (.iload_n 2, 1) := by decide +kernel
theorem dJ2_compress_39247_58 : decode cJ2_compress_39247 58 = .ok (.if_icmp .eq 6, 3) := by decide +kernel
theorem dJ2_compress_39247_61 : decode cJ2_compress_39247 61 = .ok (.aload 5, 2) := by decide +kernel
theorem dJ2_compress_39247_63 : decode cJ2_compress_39247 63 = .ok (.areturn, 1) := by decide +kernel
theorem dJ2_compress_39247_64 : decode cJ2_compress_39247 64 = .ok (.aload_n 3, 1) := by decide +kernel
theorem dJ2_compress_39247_65 : decode cJ2_compress_39247 65 = .ok (.areturn, 1) := by decide +kernel
theorem dJ2_compress_5af95_0 : decode cJ2_compress_5af95 0 = .ok (.iload_n 1, 1) := by decide +kernel
theorem dJ2_compress_5af95_1 : decode cJ2_compress_5af95 1 = .ok (.iload 4, 2) := by decide +kernel
theorem dJ2_compress_5af95_3 : decode cJ2_compress_5af95 3 = .ok (.aload_n 0, 1) := by decide +kernel
theorem dJ2_compress_5af95_4 : decode cJ2_compress_5af95 4 = .ok (.invokestatic 173, 3) := by decide +kernel
theorem dJ2_compress_5af95_7 : decode cJ2_compress_5af95 7 = .ok (.iconst 0, 1) := by decide +kernel
theorem dJ2_compress_5af95_8 : decode cJ2_compress_5af95 8 = .ok (.istore 5, 2) := by decide +kernel
theorem dJ2_compress_5af95_10 : decode cJ2_compress_5af95 10 = .ok (.iload 5, 2) := by decide +kernel
theorem dJ2_compress_5af95_12 : decode cJ2_compress_5af95 12 = .ok (.iload 4, 2) := by decide +kernel
theorem dJ2_compress_5af95_14 : decode cJ2_compress_5af95 14 = .ok (.if_icmp .ge 39, 3) := by decide +kernel
theorem dJ2_compress_5af95_17 : decode cJ2_compress_5af95 17 = .ok (.aload_n 0, 1) := by decide +kernel
theorem dJ2_compress_5af95_18 : decode cJ2_compress_5af95 18 = .ok (.iload_n 1, 1) := by decide +kernel
theorem dJ2_compress_5af95_19 : decode cJ2_compress_5af95 19 = .ok (.invokestatic 71, 3) := by decide +kernel
theorem dJ2_compress_5af95_22 : decode cJ2_compress_5af95 22 = .ok (.istore 6, 2) := by decide +kernel
theorem dJ2_compress_5af95_24 : decode cJ2_compress_5af95 24 = .ok (.iload 6, 2) := by decide +kernel
theorem dJ2_compress_5af95_26 : decode cJ2_compress_5af95 26 = .ok (.sipush 255, 3) := by decide +kernel
theorem dJ2_compress_5af95_29 : decode cJ2_compress_5af95 29 = .ok (.if_icmp .le 6, 3) := by decide +kernel
theorem dJ2_compress_5af95_32 : decode cJ2_compress_5af95 32 = .ok (.iload 5, 2) := by decide +kernel
theorem dJ2_compress_5af95_34 : decode cJ2_compress_5af95 34 = .ok (.ireturn, 1) := by decide +kernel
theorem dJ2_compress_5af95_35 : decode cJ2_compress_5af95 35 = .ok (.aload_n 2, 1) := by decide +kernel
theorem dJ2_compress_5af95_36 : decode cJ2_compress_5af95 36 = .ok (.iload_n 3, 1) := by decide +kernel
theorem dJ2_compress_5af95_37 : decode cJ2_compress_5af95 37 = .ok (.iload 6, 2) := by decide +kernel
theorem dJ2_compress_5af95_39 : decode cJ2_compress_5af95 39 = .ok (.i2b, 1) := by decide +kernel
theorem dJ2_compress_5af95_40 : decode cJ2_compress_5af95 40 = .ok (.bastore, 1) := by decide +kernel
theorem dJ2_compress_5af95_41 : decode cJ2_compress_5af95 41 = .ok (.iinc 1 1, 3) := by decide +kernel
theorem dJ2_compress_5af95_44 : decode cJ2_compress_5af95 44 = .ok (.iinc 3 1, 3) := by decide +kernel
theorem dJ2_compress_5af95_47 : decode cJ2_compress_5af95 47 = .ok (.iinc 5 1, 3) := by decide +kernel
theorem dJ2_compress_5af95_50 : decode cJ2_compress_5af95 50 = .ok (.goto (-40), 3) := by decide +kernel
theorem dJ2_compress_5af95_53 : decode cJ2_compress_5af95 53 = .ok (.iload 4, 2) := by decide +kernel
theorem dJ2_compress_5af95_55 : decode cJ2_compress_5af95 55 = .ok (.ireturn, 1) := by decide +kernel
theorem dJ2_fillNull_b72d1_0 : decode cJ2_fillNull_b72d1 0 = .ok (.aload_n 0, 1) := by decide +kernel
theorem dJ2_fillNull_b72d1_1 : decode cJ2_fillNull_b72d1 1 = .ok (.iload_n 1, 1) := by decide +kernel
theorem dJ2_fillNull_b72d1_2 : decode cJ2_fillNull_b72d1 2 = .ok (.iconst 1, 1) := by decide +kernel
theorem dJ2_fillNull_b72d1_3 : decode cJ2_fillNull_b72d1 3 = .ok (.ishl, 1) := by decide +kernel
theorem dJ2_fillNull_b72d1_4 : decode cJ2_fillNull_b72d1 4 = .ok (.iload_n 2, 1) := by decide +kernel
theorem dJ2_fillNull_b72d1_5 : decode cJ2_fillNull_b72d1 5 = .ok (.iconst 1, 1) := by decide +kernel
theorem dJ2_fillNull_b72d1_6 : decode cJ2_fillNull_b72d1 6 = .ok (.ishl, 1) := by decide +kernel
theorem dJ2_fillNull_b72d1_7 : decode cJ2_fillNull_b72d1 7 = .ok (.iconst 0, 1) := by decide +kernel
theorem dJ2_fillNull_b72d1_8 : decode cJ2_fillNull_b72d1 8 = .ok (.invokestatic 380, 3) := by decide +kernel
theorem dJ2_fillNull_b72d1_11 : decode cJ2_fillNull_b72d1 11 = .ok (.return_, 1) := by decide +kernel
theorem dJ2_putCharSB_b72d1_0 : decode cJ2_putCharSB_b72d1 0 = .ok (.iload_n 1, 1) := by decide +kernel
theorem dJ2_putCharSB_b72d1_1 : decode cJ2_putCharSB_b72d1 1 = .ok (.aload_n 0, 1) := by decide +kernel
theorem dJ2_putCharSB_b72d1_2 : decode cJ2_putCharSB_b72d1 2 = .ok (.invokestatic 67, 3) := by decide +kernel
theorem dJ2_putCharSB_b72d1_5 : decode cJ2_putCharSB_b72d1 5 = .ok (.aload_n 0, 1) := by decide +kernel
theorem dJ2_putCharSB_b72d1_6 : decode cJ2_putCharSB_b72d1 6 = .ok (.iload_n 1, 1) := by decide +kernel
theorem dJ2_putCharSB_b72d1_7 : decode cJ2_putCharSB_b72d1 7 = .ok (.iload_n 2, 1) := by decide +kernel
theorem dJ2_putCharSB_b72d1_8 : decode cJ2_putCharSB_b72d1 8 = .ok (.invokestatic 111, 3) := by decide +kernel
theorem dJ2_putCharSB_b72d1_11 : decode cJ2_putCharSB_b72d1 11 = .ok (.return_, 1) := by decide +kernel
theorem dJ2_getChars_46870_0 : decode cJ2_getChars_46870 0 = .ok (.iload_n 1, 1) := by decide +kernel
theorem dJ2_getChars_46870_1 : decode cJ2_getChars_46870 1 = .ok (.iload_n 2, 1) := by decide +kernel
theorem dJ2_getChars_46870_2 : decode cJ2_getChars_46870 2 = .ok (.aload_n 3, 1) := by decide +kernel
theorem dJ2_getChars_46870_3 : decode cJ2_getChars_46870 3 = .ok (.invokestatic 96, 3) := by decide +kernel
theorem dJ2_getChars_46870_6 : decode cJ2_getChars_46870 6 = .ok (.iload_n 0, 1) := by decide +kernel
theorem dJ2_getChars_46870_7 : decode cJ2_getChars_46870 7 = .ok (.iload_n 2, 1) := by decide +kernel
theorem dJ2_getChars_46870_8 : decode cJ2_getChars_46870 8 = .ok (.aload_n 3, 1) := by decide +kernel
theorem dJ2_getChars_46870_9 : decode cJ2_getChars_46870 9 = .ok (.invokestatic 393, 3) := by decide +kernel
theorem dJ2_getChars_46870_12 : decode cJ2_getChars_46870 12 = .ok (.istore 4, 2) := by decide +kernel
theorem dJ2_getChars_46870_14 : decode cJ2_getChars_46870 14 = .ok (.getstatic 44, 3) := by decide +kernel
theorem dJ2_getChars_46870_17 : decode cJ2_getChars_46870 17 = .ok (.ifCond .ne 17, 3) := by decide +kernel
theorem dJ2_getChars_46870_20 : decode cJ2_getChars_46870 20 = .ok (.iload_n 1, 1) := by decide +kernel
theorem dJ2_getChars_46870_21 : decode cJ2_getChars_46870 21 = .ok (.iload 4, 2) := by decide +kernel
theorem dJ2_getChars_46870_23 : decode cJ2_getChars_46870 23 = .ok (.if_icmp .eq 11, 3) := by decide +kernel
theorem dJ2_getChars_46870_26 : decode cJ2_getChars_46870 26 = .ok (.new 52, 3) := by decide +kernel
theorem dJ2_getChars_46870_29 : decode cJ2_getChars_46870 29 = .ok (.dup, 1) := by decide +kernel
theorem dJ2_getChars_46870_30 : decode cJ2_getChars_46870 30 = .ok (.invokespecial 66, 3) := by decide +kernel
theorem dJ2_getChars_46870_33 : decode cJ2_getChars_46870 33 = .ok (.athrow, 1) := by decide +kernel
theorem dJ2_getChars_46870_34 : decode cJ2_getChars_46870 34 = .ok (.iload 4, 2) := by decide +kernel
theorem dJ2_getChars_46870_36 : decode cJ2_getChars_46870 36 = .ok (.ireturn, 1) := by decide +kernel
theorem dJ2_putCharsAt_cd4e5_0 : decode cJ2_putCharsAt_cd4e5 0 = .ok (.iload_n 1, 1) := by decide +kernel
theorem dJ2_putCharsAt_cd4e5_1 : decode cJ2_putCharsAt_cd4e5 1 = .ok (.iconst 4, 1) := by decide +kernel
theorem dJ2_putCharsAt_cd4e5_2 : decode cJ2_putCharsAt_cd4e5 2 = .ok (.iadd, 1) := by decide +kernel
theorem dJ2_putCharsAt_cd4e5_3 : decode cJ2_putCharsAt_cd4e5 3 = .ok (.istore 6, 2) := by decide +kernel
theorem dJ2_putCharsAt_cd4e5_5 : decode cJ2_putCharsAt_cd4e5 5 = .ok (.iload_n 1, 1) := by decide +kernel
theorem dJ2_putCharsAt_cd4e5_6 : decode cJ2_putCharsAt_cd4e5 6 = .ok (.iload 6, 2) := by decide +kernel
theorem dJ2_putCharsAt_cd4e5_8 : decode cJ2_putCharsAt_cd4e5 8 = .ok (.aload_n 0, 1) := by decide +kernel
theorem dJ2_putCharsAt_cd4e5_9 : decode cJ2_putCharsAt_cd4e5 9 = .ok (.invokestatic 96, 3) := by decide +kernel
theorem dJ2_putCharsAt_cd4e5_12 : decode cJ2_putCharsAt_cd4e5 12 = .ok (.aload_n 0, 1) := by decide +kernel
theorem dJ2_putCharsAt_cd4e5_13 : decode cJ2_putCharsAt_cd4e5 13 = .ok (.iload_n 1, 1) := by decide +kernel
theorem dJ2_putCharsAt_cd4e5_14 : decode cJ2_putCharsAt_cd4e5 14 = .ok (.iinc 1 1, 3) := by decide +kernel
theorem dJ2_putCharsAt_cd4e5_17 : decode cJ2_putCharsAt_cd4e5 17 = .ok (.iload_n 2, 1) := by decide +kernel
theorem dJ2_putCharsAt_cd4e5_18 : decode cJ2_putCharsAt_cd4e5 18 = .ok (.invokestatic 111, 3) := by decide +kernel
theorem dJ2_putCharsAt_cd4e5_21 : decode cJ2_putCharsAt_cd4e5 21 = .ok (.aload_n 0, 1) := by decide +kernel
theorem dJ2_putCharsAt_cd4e5_22 : decode cJ2_putCharsAt_cd4e5 22 = .ok (.iload_n 1, 1) := by decide +kernel
theorem dJ2_putCharsAt_cd4e5_23 : decode cJ2_putCharsAt_cd4e5 23 = .ok (.iinc 1 1, 3) := by decide +kernel
theorem dJ2_putCharsAt_cd4e5_26 : decode cJ2_putCharsAt_cd4e5 26 = .ok (.iload_n 3, 1) := by decide +kernel
theorem dJ2_putCharsAt_cd4e5_27 : decode cJ2_putCharsAt_cd4e5 27 = .ok (.invokestatic 111, 3) := by decide +kernel
theorem dJ2_putCharsAt_cd4e5_30 : decode cJ2_putCharsAt_cd4e5 30 = .ok (.aload_n 0, 1) := by decide +kernel
theorem dJ2_putCharsAt_cd4e5_31 : decode cJ2_putCharsAt_cd4e5 31 = .ok (.iload_n 1, 1) := by decide +kernel
theorem dJ2_putCharsAt_cd4e5_32 : decode cJ2_putCharsAt_cd4e5 32 = .ok (.iinc 1 1, 3) := by decide +kernel
theorem dJ2_putCharsAt_cd4e5_35 : decode cJ2_putCharsAt_cd4e5 35 = .ok (.iload 4, 2) := by decide +kernel
theorem dJ2_putCharsAt_cd4e5_37 : decode cJ2_putCharsAt_cd4e5 37 = .ok (.invokestatic 111, 3) := by decide +kernel
theorem dJ2_putCharsAt_cd4e5_40 : decode cJ2_putCharsAt_cd4e5 40 = .ok (.aload_n 0, 1) := by decide +kernel
theorem dJ2_putCharsAt_cd4e5_41 : decode cJ2_putCharsAt_cd4e5 41 = .ok (.iload_n 1, 1) := by decide +kernel
theorem dJ2_putCharsAt_cd4e5_42 : decode cJ2_putCharsAt_cd4e5 42 = .ok (.iinc 1 1, 3) := by decide +kernel
theorem dJ2_putCharsAt_cd4e5_45 : decode cJ2_putCharsAt_cd4e5 45 = .ok (.iload 5, 2) := by decide +kernel
theorem dJ2_putCharsAt_cd4e5_47 : decode cJ2_putCharsAt_cd4e5 47 = .ok (.invokestatic 111, 3) := by decide +kernel
theorem dJ2_putCharsAt_cd4e5_50 : decode cJ2_putCharsAt_cd4e5 50 = .ok (.getstatic 44, 3) := by decide +kernel
theorem dJ2_putCharsAt_cd4e5_53 : decode cJ2_putCharsAt_cd4e5 53 = .ok (.ifCond .ne 17, 3) := by decide +kernel
theorem dJ2_putCharsAt_cd4e5_56 : decode cJ2_putCharsAt_cd4e5 56 = .ok (.iload_n 1, 1) := by decide +kernel
theorem dJ2_putCharsAt_cd4e5_57 : decode cJ2_putCharsAt_cd4e5 57 = .ok (.iload 6, 2) := by decide +kernel
theorem dJ2_putCharsAt_cd4e5_59 : decode cJ2_putCharsAt_cd4e5 59 = .ok (.if_icmp .eq 11, 3) := by decide +kernel
theorem dJ2_putCharsAt_cd4e5_62 : decode cJ2_putCharsAt_cd4e5 62 = .ok (.new 52, 3) := by decide +kernel
theorem dJ2_putCharsAt_cd4e5_65 : decode cJ2_putCharsAt_cd4e5 65 = .ok (.dup, 1) := by decide +kernel
theorem dJ2_putCharsAt_cd4e5_66 : decode cJ2_putCharsAt_cd4e5 66 = .ok (.invokespecial 66, 3) := by decide +kernel
theorem dJ2_putCharsAt_cd4e5_69 : decode cJ2_putCharsAt_cd4e5 69 = .ok (.athrow, 1) := by decide +kernel
theorem dJ2_putCharsAt_cd4e5_70 : decode cJ2_putCharsAt_cd4e5 70 = .ok (.iload 6, 2) := by decide +kernel
theorem dJ2_putCharsAt_cd4e5_72 : decode cJ2_putCharsAt_cd4e5 72 = .ok (.ireturn, 1) := by decide +kernel
theorem dJ2_charAt_3b067_0 : decode cJ2_charAt_3b067 0 = .ok (.iload_n 1, 1) := by decide +kernel
theorem dJ2_charAt_3b067_1 : decode cJ2_charAt_3b067 1 = .ok (.aload_n 0, 1) := by decide +kernel
theorem dJ2_charAt_3b067_2 : decode cJ2_charAt_3b067 2 = .ok (.invokestatic 67, 3) := by decide +kernel
theorem dJ2_charAt_3b067_5 : decode cJ2_charAt_3b067 5 = .ok (.aload_n 0, 1) := by decide +kernel
theorem dJ2_charAt_3b067_6 : decode cJ2_charAt_3b067 6 = .ok (.iload_n 1, 1) := by decide +kernel
theorem dJ2_charAt_3b067_7 : decode cJ2_charAt_3b067 7 = .ok (.invokestatic 71, 3) := by decide +kernel
theorem dJ2_charAt_3b067_10 : decode cJ2_charAt_3b067 10 = .ok (.ireturn, 1) := by decide +kernel
theorem dJ2_inflate_0e8fd_0 : decode cJ2_inflate_0e8fd 0 = .ok (.iload_n 3, 1) := by decide +kernel
theorem dJ2_inflate_0e8fd_1 : decode cJ2_inflate_0e8fd 1 = .ok (.iload 4, 2) := by decide +kernel
theorem dJ2_inflate_0e8fd_3 : decode cJ2_inflate_0e8fd 3 = .ok (.aload_n 2, 1) := by decide +kernel
theorem dJ2_inflate_0e8fd_4 : decode cJ2_inflate_0e8fd 4 = .ok (.invokestatic 173, 3) := by decide +kernel
theorem dJ2_inflate_0e8fd_7 : decode cJ2_inflate_0e8fd 7 = .ok (.iconst 0, 1) := by decide +kernel
theorem dJ2_inflate_0e8fd_8 : decode cJ2_inflate_0e8fd 8 = .ok (.istore 5, 2) := by decide +kernel
theorem dJ2_inflate_0e8fd_10 : decode cJ2_inflate_0e8fd 10 = .ok (.iload 5, 2) := by decide +kernel
theorem dJ2_inflate_0e8fd_12 : decode cJ2_inflate_0e8fd 12 = .ok (.iload 4, 2) := by decide +kernel
theorem dJ2_inflate_0e8fd_14 : decode cJ2_inflate_0e8fd 14 = .ok (.if_icmp .ge 27, 3) := by decide +kernel
theorem dJ2_inflate_0e8fd_17 : decode cJ2_inflate_0e8fd 17 = .ok (.aload_n 2, 1) := by decide +kernel
theorem dJ2_inflate_0e8fd_18 : decode cJ2_inflate_0e8fd 18 = .ok (.iload_n 3, 1) := by decide +kernel
theorem dJ2_inflate_0e8fd_19 : decode cJ2_inflate_0e8fd 19 = .ok (.iinc 3 1, 3) := by decide +kernel
theorem dJ2_inflate_0e8fd_22 : decode cJ2_inflate_0e8fd 22 = .ok (.aload_n 0, 1) := by decide +kernel
theorem dJ2_inflate_0e8fd_23 : decode cJ2_inflate_0e8fd 23 = .ok (.iload_n 1, 1) := by decide +kernel
theorem dJ2_inflate_0e8fd_24 : decode cJ2_inflate_0e8fd 24 = .ok (.iinc 1 1, 3) := by decide +kernel
theorem dJ2_inflate_0e8fd_27 : decode cJ2_inflate_0e8fd 27 = .ok (.baload, 1) := by decide +kernel
theorem dJ2_inflate_0e8fd_28 : decode cJ2_inflate_0e8fd 28 = .ok (.sipush 255, 3) := by decide +kernel
theorem dJ2_inflate_0e8fd_31 : decode cJ2_inflate_0e8fd 31 = .ok (.iand, 1) := by decide +kernel
theorem dJ2_inflate_0e8fd_32 : decode cJ2_inflate_0e8fd 32 = .ok (.invokestatic 111, 3) := by decide +kernel
theorem dJ2_inflate_0e8fd_35 : decode cJ2_inflate_0e8fd 35 = .ok (.iinc 5 1, 3) := by decide +kernel
theorem dJ2_inflate_0e8fd_38 : decode cJ2_inflate_0e8fd 38 = .ok (.goto (-28), 3) := by decide +kernel
theorem dJ2_inflate_0e8fd_41 : decode cJ2_inflate_0e8fd 41 = .ok (.return_, 1) := by decide +kernel
theorem dJ2_getChars_ba4f3_0 : decode cJ2_getChars_ba4f3 0 = .ok (.iload_n 1, 1) := by decide +kernel
theorem dJ2_getChars_ba4f3_1 : decode cJ2_getChars_ba4f3 1 = .ok (.istore 5, 2) := by decide +kernel
theorem dJ2_getChars_ba4f3_3 : decode cJ2_getChars_ba4f3 3 = .ok (.iload_n 0, 1) := by decide +kernel
theorem dJ2_getChars_ba4f3_4 : decode cJ2_getChars_ba4f3 4 = .ok (.ifCond .ge 7, 3) := by decide +kernel
theorem dJ2_getChars_ba4f3_7 : decode cJ2_getChars_ba4f3 7 = .ok (.iconst 1, 1) := by decide +kernel
theorem dJ2_getChars_ba4f3_8 : decode cJ2_getChars_ba4f3 8 = .ok (.goto 4, 3) := by decide +kernel
theorem dJ2_getChars_ba4f3_11 : decode cJ2_getChars_ba4f3 11 = .ok (.iconst 0, 1) := by decide +kernel
theorem dJ2_getChars_ba4f3_12 : decode cJ2_getChars_ba4f3 12 = .ok (.istore 6, 2) := by decide +kernel
theorem dJ2_getChars_ba4f3_14 : decode cJ2_getChars_ba4f3 14 = .ok (.iload 6, 2) := by decide +kernel
theorem dJ2_getChars_ba4f3_16 : decode cJ2_getChars_ba4f3 16 = .ok (.ifCond .ne 6, 3) := by decide +kernel
theorem dJ2_getChars_ba4f3_19 : decode cJ2_getChars_ba4f3 19 = .ok (.iload_n 0, 1) := by decide +kernel
theorem dJ2_getChars_ba4f3_20 : decode cJ2_getChars_ba4f3 20 = .ok (.ineg, 1) := by decide +kernel
theorem dJ2_getChars_ba4f3_21 : decode cJ2_getChars_ba4f3 21 = .ok (.istore_n 0, 1) := by decide +kernel
theorem dJ2_getChars_ba4f3_22 : decode cJ2_getChars_ba4f3 22 = .ok (.iload_n 0, 1) := by decide +kernel
theorem dJ2_getChars_ba4f3_23 : decode cJ2_getChars_ba4f3 23 = .ok (.bipush (-100), 2) := by decide +kernel
theorem dJ2_getChars_ba4f3_25 : decode cJ2_getChars_ba4f3 25 = .ok (.if_icmp .gt 51, 3) := by decide +kernel
theorem dJ2_getChars_ba4f3_28 : decode cJ2_getChars_ba4f3 28 = .ok (.iload_n 0, 1) := by decide +kernel
theorem dJ2_getChars_ba4f3_29 : decode cJ2_getChars_ba4f3 29 = .ok (.bipush 100, 2) := by decide +kernel
theorem dJ2_getChars_ba4f3_31 : decode cJ2_getChars_ba4f3 31 = .ok (.idiv, 1) := by decide +kernel
theorem dJ2_getChars_ba4f3_32 : decode cJ2_getChars_ba4f3 32 = .ok (.istore_n 3, 1) := by decide +kernel
theorem dJ2_getChars_ba4f3_33 : decode cJ2_getChars_ba4f3 33 = .ok (.iload_n 3, 1) := by decide +kernel
theorem dJ2_getChars_ba4f3_34 : decode cJ2_getChars_ba4f3 34 = .ok (.bipush 100, 2) := by decide +kernel
theorem dJ2_getChars_ba4f3_36 : decode cJ2_getChars_ba4f3 36 = .ok (.imul, 1) := by decide +kernel
theorem dJ2_getChars_ba4f3_37 : decode cJ2_getChars_ba4f3 37 = .ok (.iload_n 0, 1) := by decide +kernel
theorem dJ2_getChars_ba4f3_38 : decode cJ2_getChars_ba4f3 38 = .ok (.isub, 1) := by decide +kernel
theorem dJ2_getChars_ba4f3_39 : decode cJ2_getChars_ba4f3 39 = .ok (.istore 4, 2) := by decide +kernel
theorem dJ2_getChars_ba4f3_41 : decode cJ2_getChars_ba4f3 41 = .ok (.iload_n 3, 1) := by decide +kernel
theorem dJ2_getChars_ba4f3_42 : decode cJ2_getChars_ba4f3 42 = .ok (.istore_n 0, 1) := by decide +kernel
theorem dJ2_getChars_ba4f3_43 : decode cJ2_getChars_ba4f3 43 = .ok (.aload_n 2, 1) := by decide +kernel
theorem dJ2_getChars_ba4f3_44 : decode cJ2_getChars_ba4f3 44 = .ok (.iinc 5 (-1), 3) := by decide +kernel
theorem dJ2_getChars_ba4f3_47 : decode cJ2_getChars_ba4f3 47 = .ok (.iload 5, 2) := by decide +kernel
theorem dJ2_getChars_ba4f3_49 : decode cJ2_getChars_ba4f3 49 = .ok (.getstatic 403, 3) := by decide +kernel
theorem dJ2_getChars_ba4f3_52 : decode cJ2_getChars_ba4f3 52 = .ok (.iload 4, 2) := by decide +kernel
theorem dJ2_getChars_ba4f3_54 : decode cJ2_getChars_ba4f3 54 = .ok (.baload, 1) := by decide +kernel
theorem dJ2_getChars_ba4f3_55 : decode cJ2_getChars_ba4f3 55 = .ok (.invokestatic 111, 3) := by decide +kernel
theorem dJ2_getChars_ba4f3_58 : decode cJ2_getChars_ba4f3 58 = .ok (.aload_n 2, 1) := by decide +kernel
theorem dJ2_getChars_ba4f3_59 : decode cJ2_getChars_ba4f3 59 = .ok (.iinc 5 (-1), 3) := by decide +kernel
theorem dJ2_getChars_ba4f3_62 : decode cJ2_getChars_ba4f3 62 = .ok (.iload 5, 2) := by decide +kernel
theorem dJ2_getChars_ba4f3_64 : decode cJ2_getChars_ba4f3 64 = .ok (.getstatic 407, 3) := by decide +kernel
theorem dJ2_getChars_ba4f3_67 : decode cJ2_getChars_ba4f3 67 = .ok (.iload 4, 2) := by decide +kernel
theorem dJ2_getChars_ba4f3_69 : decode cJ2_getChars_ba4f3 69 = .ok (.baload, 1) := by decide +kernel
theorem dJ2_getChars_ba4f3_70 : decode cJ2_getChars_ba4f3 70 = .ok (.invokestatic 111, 3) := by decide +kernel
theorem dJ2_getChars_ba4f3_73 : decode cJ2_getChars_ba4f3 73 = .ok (.goto (-51), 3) := by decide +kernel
theorem dJ2_getChars_ba4f3_76 : decode cJ2_getChars_ba4f3 76 = .ok (.aload_n 2, 1) := by decide +kernel
theorem dJ2_getChars_ba4f3_77 : decode cJ2_getChars_ba4f3 77 = .ok (.iinc 5 (-1), 3) := by decide +kernel
theorem dJ2_getChars_ba4f3_80 : decode cJ2_getChars_ba4f3 80 = .ok (.iload 5, 2) := by decide +kernel
theorem dJ2_getChars_ba4f3_82 : decode cJ2_getChars_ba4f3 82 = .ok (.getstatic 403, 3) := by decide +kernel
theorem dJ2_getChars_ba4f3_85 : decode cJ2_getChars_ba4f3 85 = .ok (.iload_n 0, 1) := by decide +kernel
theorem dJ2_getChars_ba4f3_86 : decode cJ2_getChars_ba4f3 86 = .ok (.ineg, 1) := by decide +kernel
theorem dJ2_getChars_ba4f3_87 : decode cJ2_getChars_ba4f3 87 = .ok (.baload, 1) := by decide +kernel
theorem dJ2_getChars_ba4f3_88 : decode cJ2_getChars_ba4f3 88 = .ok (.invokestatic 111, 3) := by decide +kernel
theorem dJ2_getChars_ba4f3_91 : decode cJ2_getChars_ba4f3 91 = .ok (.iload_n 0, 1) := by decide +kernel
theorem dJ2_getChars_ba4f3_92 : decode cJ2_getChars_ba4f3 92 = .ok (.bipush (-9), 2) := by decide +kernel
theorem dJ2_getChars_ba4f3_94 : decode cJ2_getChars_ba4f3 94 = .ok (.if_icmp .ge 18, 3) := by decide +kernel
theorem dJ2_getChars_ba4f3_97 : decode cJ2_getChars_ba4f3 97 = .ok (.aload_n 2, 1) := by decide +kernel
theorem dJ2_getChars_ba4f3_98 : decode cJ2_getChars_ba4f3 98 = .ok (.iinc 5 (-1), 3) := by decide +kernel
theorem dJ2_getChars_ba4f3_101 : decode cJ2_getChars_ba4f3 101 = .ok (.iload 5, 2) := by decide +kernel
theorem dJ2_getChars_ba4f3_103 : decode cJ2_getChars_ba4f3 103 = .ok (.getstatic 407, 3) := by decide +kernel
theorem dJ2_getChars_ba4f3_106 : decode cJ2_getChars_ba4f3 106 = .ok (.iload_n 0, 1) := by decide +kernel
theorem dJ2_getChars_ba4f3_107 : decode cJ2_getChars_ba4f3 107 = .ok (.ineg, 1) := by decide +kernel
theorem dJ2_getChars_ba4f3_108 : decode cJ2_getChars_ba4f3 108 = .ok (.baload, 1) := by decide +kernel
theorem dJ2_getChars_ba4f3_109 : decode cJ2_getChars_ba4f3 109 = .ok (.invokestatic 111, 3) := by decide +kernel
theorem dJ2_getChars_ba4f3_112 : decode cJ2_getChars_ba4f3 112 = .ok (.iload 6, 2) := by decide +kernel
theorem dJ2_getChars_ba4f3_114 : decode cJ2_getChars_ba4f3 114 = .ok (.ifCond .eq 14, 3) := by decide +kernel
theorem dJ2_getChars_ba4f3_117 : decode cJ2_getChars_ba4f3 117 = .ok (.aload_n 2, 1) := by decide +kernel
theorem dJ2_getChars_ba4f3_118 : decode cJ2_getChars_ba4f3 118 = .ok (.iinc 5 (-1), 3) := by decide +kernel
theorem dJ2_getChars_ba4f3_121 : decode cJ2_getChars_ba4f3 121 = .ok (.iload 5, 2) := by decide +kernel
theorem dJ2_getChars_ba4f3_123 : decode cJ2_getChars_ba4f3 123 = .ok (.bipush 45, 2) := by decide +kernel
theorem dJ2_getChars_ba4f3_125 : decode cJ2_getChars_ba4f3 125 = .ok (.invokestatic 111, 3) := by decide +kernel
theorem dJ2_getChars_ba4f3_128 : decode cJ2_getChars_ba4f3 128 = .ok (.iload 5, 2) := by decide +kernel
theorem dJ2_getChars_ba4f3_130 : decode cJ2_getChars_ba4f3 130 = .ok (.ireturn, 1) := by decide +kernel
theorem dJ2_checkIndex_2214a_0 : decode cJ2_checkIndex_2214a 0 = .ok (.iload_n 0, 1) := by decide +kernel
theorem dJ2_checkIndex_2214a_1 : decode cJ2_checkIndex_2214a 1 = .ok (.aload_n 1, 1) := by decide +kernel
theorem dJ2_checkIndex_2214a_2 : decode cJ2_checkIndex_2214a 2 = .ok (.invokestatic 48, 3) := by decide +kernel
theorem dJ2_checkIndex_2214a_5 : decode cJ2_checkIndex_2214a 5 = .ok (.invokestatic 414, 3) := by decide +kernel
theorem dJ2_checkIndex_2214a_8 : decode cJ2_checkIndex_2214a 8 = .ok (.return_, 1) := by decide +kernel
theorem dJ2_checkBoundsBeginEnd_d044e_0 : decode cJ2_checkBoundsBeginEnd_d044e 0 = .ok (.iload_n 0, 1) := by decide +kernel
theorem dJ2_checkBoundsBeginEnd_d044e_1 : decode cJ2_checkBoundsBeginEnd_d044e 1 = .ok (.iload_n 1, 1) := by decide +kernel
theorem dJ2_checkBoundsBeginEnd_d044e_2 : decode cJ2_checkBoundsBeginEnd_d044e 2 = .ok (.aload_n 2, 1) := by decide +kernel
theorem dJ2_checkBoundsBeginEnd_d044e_3 : decode cJ2_checkBoundsBeginEnd_d044e 3 = .ok (.invokestatic 48, 3) := by decide +kernel
theorem dJ2_checkBoundsBeginEnd_d044e_6 : decode cJ2_checkBoundsBeginEnd_d044e 6 = .ok (.invokestatic 241, 3) := by decide +kernel
theorem dJ2_checkBoundsBeginEnd_d044e_9 : decode cJ2_checkBoundsBeginEnd_d044e 9 = .ok (.return_, 1) := by decide +kernel
theorem dJ2_checkBoundsOffCount_d044e_0 : decode cJ2_checkBoundsOffCount_d044e 0 = .ok (.iload_n 0, 1) := by decide +kernel
theorem dJ2_checkBoundsOffCount_d044e_1 : decode cJ2_checkBoundsOffCount_d044e 1 = .ok (.iload_n 1, 1) := by decide +kernel
theorem dJ2_checkBoundsOffCount_d044e_2 : decode cJ2_checkBoundsOffCount_d044e 2 = .ok (.aload_n 2, 1) := by decide +kernel
theorem dJ2_checkBoundsOffCount_d044e_3 : decode cJ2_checkBoundsOffCount_d044e 3 = .ok (.invokestatic 48, 3) := by decide +kernel
theorem dJ2_checkBoundsOffCount_d044e_6 : decode cJ2_checkBoundsOffCount_d044e 6 = .ok (.invokestatic 419, 3) := by decide +kernel
theorem dJ2_checkBoundsOffCount_d044e_9 : decode cJ2_checkBoundsOffCount_d044e 9 = .ok (.pop, 1) := by decide +kernel
theorem dJ2_checkBoundsOffCount_d044e_10 : decode cJ2_checkBoundsOffCount_d044e 10 = .ok (.return_, 1) := by decide +kernel
theorem dJ7_rangeCheck_23922_0 : decode cJ7_rangeCheck_23922 0 = .ok (.iload_n 1, 1) := by decide +kernel
theorem dJ7_rangeCheck_23922_1 : decode cJ7_rangeCheck_23922 1 = .ok (.iload_n 2, 1) := by decide +kernel
theorem dJ7_rangeCheck_23922_2 : decode cJ7_rangeCheck_23922 2 = .ok (.if_icmp .le 44, 3) := by decide +kernel
theorem dJ7_rangeCheck_23922_5 : decode cJ7_rangeCheck_23922 5 = .ok (.new 43, 3) := by decide +kernel
theorem dJ7_rangeCheck_23922_8 : decode cJ7_rangeCheck_23922 8 = .ok (.dup, 1) := by decide +kernel
theorem dJ7_rangeCheck_23922_9 : decode cJ7_rangeCheck_23922 9 = .ok (.new 45, 3) := by decide +kernel
theorem dJ7_rangeCheck_23922_12 : decode cJ7_rangeCheck_23922 12 = .ok (.dup, 1) := by decide +kernel
theorem dJ7_rangeCheck_23922_13 : decode cJ7_rangeCheck_23922 13 = .ok (.invokespecial 47, 3) := by decide +kernel
theorem dJ7_rangeCheck_23922_16 : decode cJ7_rangeCheck_23922 16 = .ok (.ldc 48, 2) := by decide +kernel
theorem dJ7_rangeCheck_23922_18 : decode cJ7_rangeCheck_23922 18 = .ok (.invokevirtual 50, 3) := by decide +kernel
theorem dJ7_rangeCheck_23922_21 : decode cJ7_rangeCheck_23922 21 = .ok (.iload_n 1, 1) := by decide +kernel
theorem dJ7_rangeCheck_23922_22 : decode cJ7_rangeCheck_23922 22 = .ok (.invokevirtual 54, 3) := by decide +kernel
theorem dJ7_rangeCheck_23922_25 : decode cJ7_rangeCheck_23922 25 = .ok (.ldc 57, 2) := by decide +kernel
theorem dJ7_rangeCheck_23922_27 : decode cJ7_rangeCheck_23922 27 = .ok (.invokevirtual 50, 3) := by decide +kernel
theorem dJ7_rangeCheck_23922_30 : decode cJ7_rangeCheck_23922 30 = .ok (.iload_n 2, 1) := by decide +kernel
theorem dJ7_rangeCheck_23922_31 : decode cJ7_rangeCheck_23922 31 = .ok (.invokevirtual 54, 3) := by decide +kernel
theorem dJ7_rangeCheck_23922_34 : decode cJ7_rangeCheck_23922 34 = .ok (.ldc 59, 2) := by decide +kernel
theorem dJ7_rangeCheck_23922_36 : decode cJ7_rangeCheck_23922 36 = .ok (.invokevirtual 50, 3) := by decide +kernel
theorem dJ7_rangeCheck_23922_39 : decode cJ7_rangeCheck_23922 39 = .ok (.invokevirtual 61, 3) := by decide +kernel
theorem dJ7_rangeCheck_23922_42 : decode cJ7_rangeCheck_23922 42 = .ok (.invokespecial 65, 3) := by decide +kernel
theorem dJ7_rangeCheck_23922_45 : decode cJ7_rangeCheck_23922 45 = .ok (.athrow, 1) := by decide +kernel
theorem dJ7_rangeCheck_23922_46 : decode cJ7_rangeCheck_23922 46 = .ok (.iload_n 1, 1) := by decide +kernel
theorem dJ7_rangeCheck_23922_47 : decode cJ7_rangeCheck_23922 47 = .ok (.ifCond .ge 12, 3) := by decide +kernel
theorem dJ7_rangeCheck_23922_50 : decode cJ7_rangeCheck_23922 50 = .ok (.new 68, 3) := by decide +kernel
theorem dJ7_rangeCheck_23922_53 : decode cJ7_rangeCheck_23922 53 = .ok (.dup, 1) := by decide +kernel
theorem dJ7_rangeCheck_23922_54 : decode cJ7_rangeCheck_23922 54 = .ok (.iload_n 1, 1) := by decide +kernel
theorem dJ7_rangeCheck_23922_55 : decode cJ7_rangeCheck_23922 55 = .ok (.invokespecial 70, 3) := by decide +kernel
theorem dJ7_rangeCheck_23922_58 : decode cJ7_rangeCheck_23922 58 = .ok (.athrow, 1) := by decide +kernel
theorem dJ7_rangeCheck_23922_59 : decode cJ7_rangeCheck_23922 59 = .ok (.iload_n 2, 1) := by decide +kernel
theorem dJ7_rangeCheck_23922_60 : decode cJ7_rangeCheck_23922 60 = .ok (.iload_n 0, 1) := by decide +kernel
theorem dJ7_rangeCheck_23922_61 : decode cJ7_rangeCheck_23922 61 = .ok (.if_icmp .le 12, 3) := by decide +kernel
theorem dJ7_rangeCheck_23922_64 : decode cJ7_rangeCheck_23922 64 = .ok (.new 68, 3) := by decide +kernel
theorem dJ7_rangeCheck_23922_67 : decode cJ7_rangeCheck_23922 67 = .ok (.dup, 1) := by decide +kernel
theorem dJ7_rangeCheck_23922_68 : decode cJ7_rangeCheck_23922 68 = .ok (.iload_n 2, 1) := by decide +kernel
theorem dJ7_rangeCheck_23922_69 : decode cJ7_rangeCheck_23922 69 = .ok (.invokespecial 70, 3) := by decide +kernel
theorem dJ7_rangeCheck_23922_72 : decode cJ7_rangeCheck_23922 72 = .ok (.athrow, 1) := by decide +kernel
theorem dJ7_rangeCheck_23922_73 : decode cJ7_rangeCheck_23922 73 = .ok (.return_, 1) := by decide +kernel
theorem dJ7_fill_eb02e_0 : decode cJ7_fill_eb02e 0 = .ok (.aload_n 0, 1) := by decide +kernel
theorem dJ7_fill_eb02e_1 : decode cJ7_fill_eb02e 1 = .ok (.arraylength, 1) := by decide +kernel
theorem dJ7_fill_eb02e_2 : decode cJ7_fill_eb02e 2 = .ok (.iload_n 1, 1) := by decide +kernel
theorem dJ7_fill_eb02e_3 : decode cJ7_fill_eb02e 3 = .ok (.iload_n 2, 1) := by decide +kernel
theorem dJ7_fill_eb02e_4 : decode cJ7_fill_eb02e 4 = .ok (.invokestatic 13, 3) := by decide +kernel
theorem dJ7_fill_eb02e_7 : decode cJ7_fill_eb02e 7 = .ok (.iload_n 1, 1) := by decide +kernel
theorem dJ7_fill_eb02e_8 : decode cJ7_fill_eb02e 8 = .ok (.istore 4, 2) := by decide +kernel
theorem dJ7_fill_eb02e_10 : decode cJ7_fill_eb02e 10 = .ok (.iload 4, 2) := by decide +kernel
theorem dJ7_fill_eb02e_12 : decode cJ7_fill_eb02e 12 = .ok (.iload_n 2, 1) := by decide +kernel
theorem dJ7_fill_eb02e_13 : decode cJ7_fill_eb02e 13 = .ok (.if_icmp .ge 14, 3) := by decide +kernel
theorem dJ7_fill_eb02e_16 : decode cJ7_fill_eb02e 16 = .ok (.aload_n 0, 1) := by decide +kernel
theorem dJ7_fill_eb02e_17 : decode cJ7_fill_eb02e 17 = .ok (.iload 4, 2) := by decide +kernel
theorem dJ7_fill_eb02e_19 : decode cJ7_fill_eb02e 19 = .ok (.iload_n 3, 1) := by decide +kernel
theorem dJ7_fill_eb02e_20 : decode cJ7_fill_eb02e 20 = .ok (.bastore, 1) := by decide +kernel
theorem dJ7_fill_eb02e_21 : decode cJ7_fill_eb02e 21 = .ok (.iinc 4 1, 3) := by decide +kernel
theorem dJ7_fill_eb02e_24 : decode cJ7_fill_eb02e 24 = .ok (.goto (-14), 3) := by decide +kernel
theorem dJ7_fill_eb02e_27 : decode cJ7_fill_eb02e 27 = .ok (.return_, 1) := by decide +kernel
theorem dJ7_copyOf_9075b_0 : decode cJ7_copyOf_9075b 0 = .ok (.iload_n 1, 1) := by decide +kernel
theorem dJ7_copyOf_9075b_1 : decode cJ7_copyOf_9075b 1 = .ok (.aload_n 0, 1) := by decide +kernel
theorem dJ7_copyOf_9075b_2 : decode cJ7_copyOf_9075b 2 = .ok (.arraylength, 1) := by decide +kernel
theorem dJ7_copyOf_9075b_3 : decode cJ7_copyOf_9075b 3 = .ok (.if_icmp .ne 11, 3) := by decide +kernel
theorem dJ7_copyOf_9075b_6 : decode cJ7_copyOf_9075b 6 = .ok (.aload_n 0, 1) := by decide +kernel
theorem dJ7_copyOf_9075b_7 : decode cJ7_copyOf_9075b 7 = .ok (.invokevirtual 310, 3) := by decide +kernel
theorem dJ7_copyOf_9075b_10 : decode cJ7_copyOf_9075b 10 = .ok (.checkcast 311, 3) := by decide +kernel
theorem dJ7_copyOf_9075b_13 : decode cJ7_copyOf_9075b 13 = .ok (.areturn, 1) := by decide +kernel
theorem dJ7_copyOf_9075b_14 : decode cJ7_copyOf_9075b 14 = .ok (.iload_n 1, 1) := by decide +kernel
theorem dJ7_copyOf_9075b_15 : decode cJ7_copyOf_9075b 15 = .ok (.newarray .byte, 2) := by decide +kernel
theorem dJ7_copyOf_9075b_17 : decode cJ7_copyOf_9075b 17 = .ok (.astore_n 2, 1) := by decide +kernel
theorem dJ7_copyOf_9075b_18 : decode cJ7_copyOf_9075b 18 = .ok (.aload_n 0, 1) := by decide +kernel
theorem dJ7_copyOf_9075b_19 : decode cJ7_copyOf_9075b 19 = .ok (.iconst 0, 1) := by decide +kernel
theorem dJ7_copyOf_9075b_20 : decode cJ7_copyOf_9075b 20 = .ok (.aload_n 2, 1) := by decide +kernel
theorem dJ7_copyOf_9075b_21 : decode cJ7_copyOf_9075b 21 = .ok (.iconst 0, 1) := by decide +kernel
theorem dJ7_copyOf_9075b_22 : decode cJ7_copyOf_9075b 22 = .ok (.aload_n 0, 1) := by decide +kernel
theorem dJ7_copyOf_9075b_23 : decode cJ7_copyOf_9075b 23 = .ok (.arraylength, 1) := by decide +kernel
theorem dJ7_copyOf_9075b_24 : decode cJ7_copyOf_9075b 24 = .ok (.iload_n 1, 1) := by decide +kernel
theorem dJ7_copyOf_9075b_25 : decode cJ7_copyOf_9075b 25 = .ok (.invokestatic 304, 3) := by decide +kernel
theorem dJ7_copyOf_9075b_28 : decode cJ7_copyOf_9075b 28 = .ok (.invokestatic 150, 3) := by decide +kernel
theorem dJ7_copyOf_9075b_31 : decode cJ7_copyOf_9075b 31 = .ok (.aload_n 2, 1) := by decide +kernel
theorem dJ7_copyOf_9075b_32 : decode cJ7_copyOf_9075b 32 = .ok (.areturn, 1) := by decide +kernel
theorem dJ7_checkLength_df160_0 : decode cJ7_checkLength_df160 0 = .ok (.iload_n 1, 1) := by decide +kernel
theorem dJ7_checkLength_df160_1 : decode cJ7_checkLength_df160 1 = .ok (.iload_n 0, 1) := by decide +kernel
theorem dJ7_checkLength_df160_2 : decode cJ7_checkLength_df160 2 = .ok (.if_icmp .ge 35, 3) := by decide +kernel
theorem dJ7_checkLength_df160_5 : decode cJ7_checkLength_df160 5 = .ok (.new 43, 3) := by decide +kernel
theorem dJ7_checkLength_df160_8 : decode cJ7_checkLength_df160 8 = .ok (.dup, 1) := by decide +kernel
theorem dJ7_checkLength_df160_9 : decode cJ7_checkLength_df160 9 = .ok (.new 45, 3) := by decide +kernel
theorem dJ7_checkLength_df160_12 : decode cJ7_checkLength_df160 12 = .ok (.dup, 1) := by decide +kernel
theorem dJ7_checkLength_df160_13 : decode cJ7_checkLength_df160 13 = .ok (.invokespecial 47, 3) := by decide +kernel
theorem dJ7_checkLength_df160_16 : decode cJ7_checkLength_df160 16 = .ok (.iload_n 0, 1) := by decide +kernel
theorem dJ7_checkLength_df160_17 : decode cJ7_checkLength_df160 17 = .ok (.invokevirtual 54, 3) := by decide +kernel
theorem dJ7_checkLength_df160_20 : decode cJ7_checkLength_df160 20 = .ok (.ldc_w 337, 3) := by decide +kernel
theorem dJ7_checkLength_df160_23 : decode cJ7_checkLength_df160 23 = .ok (.invokevirtual 50, 3) := by decide +kernel
theorem dJ7_checkLength_df160_26 : decode cJ7_checkLength_df160 26 = .ok (.iload_n 1, 1) := by decide +kernel
theorem dJ7_checkLength_df160_27 : decode cJ7_checkLength_df160 27 = .ok (.invokevirtual 54, 3) := by decide +kernel
theorem dJ7_checkLength_df160_30 : decode cJ7_checkLength_df160 30 = .ok (.invokevirtual 61, 3) := by decide +kernel
theorem dJ7_checkLength_df160_33 : decode cJ7_checkLength_df160 33 = .ok (.invokespecial 65, 3) := by decide +kernel
theorem dJ7_checkLength_df160_36 : decode cJ7_checkLength_df160 36 = .ok (.athrow, 1) := by decide +kernel
theorem dJ7_checkLength_df160_37 : decode cJ7_checkLength_df160 37 = .ok (.return_, 1) := by decide +kernel
theorem dJ7_copyOfRange_39247_0 : decode cJ7_copyOfRange_39247 0 = .ok (.iload_n 1, 1) := by decide +kernel
theorem dJ7_copyOfRange_39247_1 : decode cJ7_copyOfRange_39247 1 = .ok (.ifCond .ne 9, 3) := by decide +kernel
theorem dJ7_copyOfRange_39247_4 : decode cJ7_copyOfRange_39247 4 = .ok (.iload_n 2, 1) := by decide +kernel
theorem dJ7_copyOfRange_39247_5 : decode cJ7_copyOfRange_39247 5 = .ok (.aload_n 0, 1) := by decide +kernel
theorem dJ7_copyOfRange_39247_6 : decode cJ7_copyOfRange_39247 6 = .ok (.arraylength, 1) := by decide +kernel
theorem dJ7_copyOfRange_39247_7 : decode cJ7_copyOfRange_39247 7 = .ok (.if_icmp .eq 10, 3) := by decide +kernel
theorem dJ7_copyOfRange_39247_10 : decode cJ7_copyOfRange_39247 10 = .ok (.aload_n 0, 1) := by decide +kernel
theorem dJ7_copyOfRange_39247_11 : decode cJ7_copyOfRange_39247 11 = .ok (.iload_n 1, 1) := by decide +kernel
theorem dJ7_copyOfRange_39247_12 : decode cJ7_copyOfRange_39247 12 = .ok (.iload_n 2, 1) := by decide +kernel
theorem dJ7_copyOfRange_39247_13 : decode cJ7_copyOfRange_39247 13 = .ok (.invokestatic 339, 3) := by decide +kernel
theorem dJ7_copyOfRange_39247_16 : decode cJ7_copyOfRange_39247 16 = .ok (.areturn, 1) := by decide +kernel
theorem dJ7_copyOfRange_39247_17 : decode cJ7_copyOfRange_39247 17 = .ok (.aload_n 0, 1) := by decide +kernel
theorem dJ7_copyOfRange_39247_18 : decode cJ7_copyOfRange_39247 18 = .ok (.invokevirtual 310, 3) := by decide +kernel
theorem dJ7_copyOfRange_39247_21 : decode cJ7_copyOfRange_39247 21 = .ok (.checkcast 311, 3) := by decide +kernel
theorem dJ7_copyOfRange_39247_24 : decode cJ7_copyOfRange_39247 24 = .ok (.areturn, 1) := by decide +kernel
theorem dJ7_copyOfRangeByte_39247_0 : decode cJ7_copyOfRangeByte_39247 0 = .ok (.iload_n 1, 1) := by decide +kernel
theorem dJ7_copyOfRangeByte_39247_1 : decode cJ7_copyOfRangeByte_39247 1 = .ok (.iload_n 2, 1) := by decide +kernel
theorem dJ7_copyOfRangeByte_39247_2 : decode cJ7_copyOfRangeByte_39247 2 = .ok (.invokestatic 343, 3) := by decide +kernel
theorem dJ7_copyOfRangeByte_39247_5 : decode cJ7_copyOfRangeByte_39247 5 = .ok (.iload_n 2, 1) := by decide +kernel
theorem dJ7_copyOfRangeByte_39247_6 : decode cJ7_copyOfRangeByte_39247 6 = .ok (.iload_n 1, 1) := by decide +kernel
theorem dJ7_copyOfRangeByte_39247_7 : decode cJ7_copyOfRangeByte_39247 7 = .ok (.isub, 1) := by decide +kernel
theorem dJ7_copyOfRangeByte_39247_8 : decode cJ7_copyOfRangeByte_39247 8 = .ok (.istore_n 3, 1) := by decide +kernel
theorem dJ7_copyOfRangeByte_39247_9 : decode cJ7_copyOfRangeByte_39247 9 = .ok (.iload_n 3, 1) := by decide +kernel
theorem dJ7_copyOfRangeByte_39247_10 : decode cJ7_copyOfRangeByte_39247 10 = .ok (.newarray .byte, 2) := by decide +kernel
theorem dJ7_copyOfRangeByte_39247_12 : decode cJ7_copyOfRangeByte_39247 12 = .ok (.astore 4, 2) := by decide +kernel
theorem dJ7_copyOfRangeByte_39247_14 : decode cJ7_copyOfRangeByte_39247 14 = .ok (.aload_n 0, 1) := by decide +kernel
theorem dJ7_copyOfRangeByte_39247_15 : decode cJ7_copyOfRangeByte_39247 15 = .ok (.iload_n 1, 1) := by decide +kernel
theorem dJ7_copyOfRangeByte_39247_16 : decode cJ7_copyOfRangeByte_39247 16 = .ok (.aload 4, 2) := by decide +kernel
theorem dJ7_copyOfRangeByte_39247_18 : decode cJ7_copyOfRangeByte_39247 18 = .ok (.iconst 0, 1) := by decide +kernel
theorem dJ7_copyOfRangeByte_39247_19 : decode cJ7_copyOfRangeByte_39247 19 = .ok (.aload_n 0, 1) := by decide +kernel
theorem dJ7_copyOfRangeByte_39247_20 : decode cJ7_copyOfRangeByte_39247 20 = .ok (.arraylength, 1) := by decide +kernel
theorem dJ7_copyOfRangeByte_39247_21 : decode cJ7_copyOfRangeByte_39247 21 = .ok (.iload_n 1, 1) := by decide +kernel
theorem dJ7_copyOfRangeByte_39247_22 : decode cJ7_copyOfRangeByte_39247 22 = .ok (.isub, 1) := by decide +kernel
theorem dJ7_copyOfRangeByte_39247_23 : decode cJ7_copyOfRangeByte_39247 23 = .ok (.iload_n 3, 1) := by decide +kernel
theorem dJ7_copyOfRangeByte_39247_24 : decode cJ7_copyOfRangeByte_39247 24 = .ok (.invokestatic 304, 3) := by decide +kernel
theorem dJ7_copyOfRangeByte_39247_27 : decode cJ7_copyOfRangeByte_39247 27 = .ok (.invokestatic 150, 3) := by decide +kernel
theorem dJ7_copyOfRangeByte_39247_30 : decode cJ7_copyOfRangeByte_39247 30 = .ok (.aload 4, 2) := by decide +kernel
theorem dJ7_copyOfRangeByte_39247_32 : decode cJ7_copyOfRangeByte_39247 32 = .ok (.areturn, 1) := by decide +kernel
theorem dJ8_newLength_cabcc_0 : decode cJ8_newLength_cabcc 0 = .ok (.iload_n 0, 1) := by decide +kernel
theorem dJ8_newLength_cabcc_1 : decode cJ8_newLength_cabcc 1 = .ok (.iload_n 1, 1) := by decide +kernel
theorem dJ8_newLength_cabcc_2 : decode cJ8_newLength_cabcc 2 = .ok (.iload_n 2, 1) := by decide +kernel
theorem dJ8_newLength_cabcc_3 : decode cJ8_newLength_cabcc 3 = .ok (.invokestatic 194, 3) := by decide +kernel
theorem dJ8_newLength_cabcc_6 : decode cJ8_newLength_cabcc 6 = .ok (.iadd, 1) := by decide +kernel
theorem dJ8_newLength_cabcc_7 : decode cJ8_newLength_cabcc 7 = .ok (.istore_n 3, 1) := by decide +kernel
theorem dJ8_newLength_cabcc_8 : decode cJ8_newLength_cabcc 8 = .ok (.iconst 0, 1) := by decide +kernel
theorem dJ8_newLength_cabcc_9 : decode cJ8_newLength_cabcc 9 = .ok (.iload_n 3, 1) := by decide +kernel
theorem dJ8_newLength_cabcc_10 : decode cJ8_newLength_cabcc 10 = .ok (.if_icmp .ge 11, 3) := by decide +kernel
theorem dJ8_newLength_cabcc_13 : decode cJ8_newLength_cabcc 13 = .ok (.iload_n 3, 1) := by decide +kernel
theorem dJ8_newLength_cabcc_14 : decode cJ8_newLength_cabcc 14 = .ok (.ldc 200, 2) := by decide +kernel
theorem dJ8_newLength_cabcc_16 : decode cJ8_newLength_cabcc 16 = .ok (.if_icmp .gt 5, 3) := by decide +kernel
theorem dJ8_newLength_cabcc_19 : decode cJ8_newLength_cabcc 19 = .ok (.iload_n 3, 1) := by decide +kernel
theorem dJ8_newLength_cabcc_20 : decode cJ8_newLength_cabcc 20 = .ok (.ireturn, 1) := by decide +kernel
theorem dJ8_newLength_cabcc_21 : decode cJ8_newLength_cabcc 21 = .ok (.iload_n 0, 1) := by decide +kernel
theorem dJ8_newLength_cabcc_22 : decode cJ8_newLength_cabcc 22 = .ok (.iload_n 1, 1) := by decide +kernel
theorem dJ8_newLength_cabcc_23 : decode cJ8_newLength_cabcc 23 = .ok (.invokestatic 201, 3) := by decide +kernel
theorem dJ8_newLength_cabcc_26 : decode cJ8_newLength_cabcc 26 = .ok (.ireturn, 1) := by decide +kernel
theorem dJ8_hugeLength_7cf53_0 : decode cJ8_hugeLength_7cf53 0 = .ok (.iload_n 0, 1) := by decide +kernel
theorem dJ8_hugeLength_7cf53_1 : decode cJ8_hugeLength_7cf53 1 = .ok (.iload_n 1, 1) := by decide +kernel
theorem dJ8_hugeLength_7cf53_2 : decode cJ8_hugeLength_7cf53 2 = .ok (.iadd, 1) := by decide +kernel
theorem dJ8_hugeLength_7cf53_3 : decode cJ8_hugeLength_7cf53 3 = .ok (.istore_n 2, 1) := by decide +kernel
theorem dJ8_hugeLength_7cf53_4 : decode cJ8_hugeLength_7cf53 4 = .ok (.iload_n 2, 1) := by decide +kernel
theorem dJ8_hugeLength_7cf53_5 : decode cJ8_hugeLength_7cf53 5 = .ok (.ifCond .ge 44, 3) := by decide +kernel
theorem dJ8_hugeLength_7cf53_8 : decode cJ8_hugeLength_7cf53 8 = .ok (.new 204, 3) := by decide +kernel
theorem dJ8_hugeLength_7cf53_11 : decode cJ8_hugeLength_7cf53 11 = .ok (.dup, 1) := by decide +kernel
theorem dJ8_hugeLength_7cf53_12 : decode cJ8_hugeLength_7cf53 12 = .ok (.new 89, 3) := by decide +kernel
theorem dJ8_hugeLength_7cf53_15 : decode cJ8_hugeLength_7cf53 15 = .ok (.dup, 1) := by decide +kernel
theorem dJ8_hugeLength_7cf53_16 : decode cJ8_hugeLength_7cf53 16 = .ok (.invokespecial 91, 3) := by decide +kernel
theorem dJ8_hugeLength_7cf53_19 : decode cJ8_hugeLength_7cf53 19 = .ok (.ldc 206, 2) := by decide +kernel
theorem dJ8_hugeLength_7cf53_21 : decode cJ8_hugeLength_7cf53 21 = .ok (.invokevirtual 94, 3) := by decide +kernel
theorem dJ8_hugeLength_7cf53_24 : decode cJ8_hugeLength_7cf53 24 = .ok (.iload_n 0, 1) := by decide +kernel
theorem dJ8_hugeLength_7cf53_25 : decode cJ8_hugeLength_7cf53 25 = .ok (.invokevirtual 98, 3) := by decide +kernel
theorem dJ8_hugeLength_7cf53_28 : decode cJ8_hugeLength_7cf53 28 = .ok (.ldc 208, 2) := by decide +kernel
theorem dJ8_hugeLength_7cf53_30 : decode cJ8_hugeLength_7cf53 30 = .ok (.invokevirtual 94, 3) := by decide +kernel
theorem dJ8_hugeLength_7cf53_33 : decode cJ8_hugeLength_7cf53 33 = .ok (.iload_n 1, 1) := by decide +kernel
theorem dJ8_hugeLength_7cf53_34 : decode cJ8_hugeLength_7cf53 34 = .ok (.invokevirtual 98, 3) := by decide +kernel
theorem dJ8_hugeLength_7cf53_37 : decode cJ8_hugeLength_7cf53 37 = .ok (.ldc 210, 2) := by decide +kernel
theorem dJ8_hugeLength_7cf53_39 : decode cJ8_hugeLength_7cf53 39 = .ok (.invokevirtual 94, 3) := by decide +kernel
theorem dJ8_hugeLength_7cf53_42 : decode cJ8_hugeLength_7cf53 42 = .ok (.invokevirtual 101, 3) := by decide +kernel
theorem dJ8_hugeLength_7cf53_45 : decode cJ8_hugeLength_7cf53 45 = .ok (.invokespecial 212, 3) := by decide +kernel
theorem dJ8_hugeLength_7cf53_48 : decode cJ8_hugeLength_7cf53 48 = .ok (.athrow, 1) := by decide +kernel
theorem dJ8_hugeLength_7cf53_49 : decode cJ8_hugeLength_7cf53 49 = .ok (.iload_n 2, 1) := by decide +kernel
theorem dJ8_hugeLength_7cf53_50 : decode cJ8_hugeLength_7cf53 50 = .ok (.ldc 200, 2) := by decide +kernel
theorem dJ8_hugeLength_7cf53_52 : decode cJ8_hugeLength_7cf53 52 = .ok (.if_icmp .gt 6, 3) := by decide +kernel
theorem dJ8_hugeLength_7cf53_55 : decode cJ8_hugeLength_7cf53 55 = .ok (.ldc 200, 2) := by decide +kernel
theorem dJ8_hugeLength_7cf53_57 : decode cJ8_hugeLength_7cf53 57 = .ok (.ireturn, 1) := by decide +kernel
theorem dJ8_hugeLength_7cf53_58 : decode cJ8_hugeLength_7cf53 58 = .ok (.iload_n 2, 1) := by decide +kernel
theorem dJ8_hugeLength_7cf53_59 : decode cJ8_hugeLength_7cf53 59 = .ok (.ireturn, 1) := by decide +kernel
theorem dJ3_checkIndex_8e157_0 : decode cJ3_checkIndex_8e157 0 = .ok (.iload_n 0, 1) := by decide +kernel
theorem dJ3_checkIndex_8e157_1 : decode cJ3_checkIndex_8e157 1 = .ok (.ifCond .lt 8, 3) := by decide +kernel
theorem dJ3_checkIndex_8e157_4 : decode cJ3_checkIndex_8e157 4 = .ok (.iload_n 0, 1) := by decide +kernel
theorem dJ3_checkIndex_8e157_5 : decode cJ3_checkIndex_8e157 5 = .ok (.iload_n 1, 1) := by decide +kernel
theorem dJ3_checkIndex_8e157_6 : decode cJ3_checkIndex_8e157 6 = .ok (.if_icmp .lt 10, 3) := by decide +kernel
theorem dJ3_checkIndex_8e157_9 : decode cJ3_checkIndex_8e157 9 = .ok (.aload_n 2, 1) := by decide +kernel
theorem dJ3_checkIndex_8e157_10 : decode cJ3_checkIndex_8e157 10 = .ok (.iload_n 0, 1) := by decide +kernel
theorem dJ3_checkIndex_8e157_11 : decode cJ3_checkIndex_8e157 11 = .ok (.iload_n 1, 1) := by decide +kernel
theorem dJ3_checkIndex_8e157_12 : decode cJ3_checkIndex_8e157 12 = .ok (.invokestatic 95, 3) := by decide +kernel
theorem dJ3_checkIndex_8e157_15 : decode cJ3_checkIndex_8e157 15 = .ok (.athrow, 1) := by decide +kernel
theorem dJ3_checkIndex_8e157_16 : decode cJ3_checkIndex_8e157 16 = .ok (.iload_n 0, 1) := by decide +kernel
theorem dJ3_checkIndex_8e157_17 : decode cJ3_checkIndex_8e157 17 = .ok (.ireturn, 1) := by decide +kernel
theorem dJ3_checkFromToIndex_8c36e_0 : decode cJ3_checkFromToIndex_8c36e 0 = .ok (.iload_n 0, 1) := by decide +kernel
theorem dJ3_checkFromToIndex_8c36e_1 : decode cJ3_checkFromToIndex_8c36e 1 = .ok (.ifCond .lt 13, 3) := by decide +kernel
theorem dJ3_checkFromToIndex_8c36e_4 : decode cJ3_checkFromToIndex_8c36e 4 = .ok (.iload_n 0, 1) := by decide +kernel
theorem dJ3_checkFromToIndex_8c36e_5 : decode cJ3_checkFromToIndex_8c36e 5 = .ok (.iload_n 1, 1) := by decide +kernel
theorem dJ3_checkFromToIndex_8c36e_6 : decode cJ3_checkFromToIndex_8c36e 6 = .ok (.if_icmp .gt 8, 3) := by decide +kernel
theorem dJ3_checkFromToIndex_8c36e_9 : decode cJ3_checkFromToIndex_8c36e 9 = .ok (.iload_n 1, 1) := by decide +kernel
theorem dJ3_checkFromToIndex_8c36e_10 : decode cJ3_checkFromToIndex_8c36e 10 = .ok (.iload_n 2, 1) := by decide +kernel
theorem dJ3_checkFromToIndex_8c36e_11 : decode cJ3_checkFromToIndex_8c36e 11 = .ok (.if_icmp .le 11, 3) := by decide +kernel
theorem dJ3_checkFromToIndex_8c36e_14 : decode cJ3_checkFromToIndex_8c36e 14 = .ok (.aload_n 3, 1) := by decide +kernel
theorem dJ3_checkFromToIndex_8c36e_15 : decode cJ3_checkFromToIndex_8c36e 15 = .ok (.iload_n 0, 1) := by decide +kernel
theorem dJ3_checkFromToIndex_8c36e_16 : decode cJ3_checkFromToIndex_8c36e 16 = .ok (.iload_n 1, 1) := by decide +kernel
theorem dJ3_checkFromToIndex_8c36e_17 : decode cJ3_checkFromToIndex_8c36e 17 = .ok (.iload_n 2, 1) := by decide +kernel
theorem dJ3_checkFromToIndex_8c36e_18 : decode cJ3_checkFromToIndex_8c36e 18 = .ok (.invokestatic 99, 3) := by decide +kernel
theorem dJ3_checkFromToIndex_8c36e_21 : decode cJ3_checkFromToIndex_8c36e 21 = .ok (.athrow, 1) := by decide +kernel
theorem dJ3_checkFromToIndex_8c36e_22 : decode cJ3_checkFromToIndex_8c36e 22 = .ok (.iload_n 0, 1) := by decide +kernel
theorem dJ3_checkFromToIndex_8c36e_23 : decode cJ3_checkFromToIndex_8c36e 23 = .ok (.ireturn, 1) := by decide +kernel
theorem dJ3_checkFromIndexSize_8c36e_0 : decode cJ3_checkFromIndexSize_8c36e 0 = .ok (.iload_n 2, 1) := by decide +kernel
theorem dJ3_checkFromIndexSize_8c36e_1 : decode cJ3_checkFromIndexSize_8c36e 1 = .ok (.iload_n 0, 1) := by decide +kernel
theorem dJ3_checkFromIndexSize_8c36e_2 : decode cJ3_checkFromIndexSize_8c36e 2 = .ok (.ior, 1) := by decide +kernel
theorem dJ3_checkFromIndexSize_8c36e_3 : decode cJ3_checkFromIndexSize_8c36e 3 = .ok (.iload_n 1, 1) := by decide +kernel
theorem dJ3_checkFromIndexSize_8c36e_4 : decode cJ3_checkFromIndexSize_8c36e 4 = .ok (.ior, 1) := by decide +kernel
theorem dJ3_checkFromIndexSize_8c36e_5 : decode cJ3_checkFromIndexSize_8c36e 5 = .ok (.ifCond .lt 10, 3) := by decide +kernel
theorem dJ3_checkFromIndexSize_8c36e_8 : decode cJ3_checkFromIndexSize_8c36e 8 = .ok (.iload_n 1, 1) := by decide +kernel
theorem dJ3_checkFromIndexSize_8c36e_9 : decode cJ3_checkFromIndexSize_8c36e 9 = .ok (.iload_n 2, 1) := by decide +kernel
theorem dJ3_checkFromIndexSize_8c36e_10 : decode cJ3_checkFromIndexSize_8c36e 10 = .ok (.iload_n 0, 1) := by decide +kernel
theorem dJ3_checkFromIndexSize_8c36e_11 : decode cJ3_checkFromIndexSize_8c36e 11 = .ok (.isub, 1) := by decide +kernel
theorem dJ3_checkFromIndexSize_8c36e_12 : decode cJ3_checkFromIndexSize_8c36e 12 = .ok (.if_icmp .le 11, 3) := by decide +kernel
theorem dJ3_checkFromIndexSize_8c36e_15 : decode cJ3_checkFromIndexSize_8c36e 15 = .ok (.aload_n 3, 1) := by decide +kernel
theorem dJ3_checkFromIndexSize_8c36e_16 : decode cJ3_checkFromIndexSize_8c36e 16 = .ok (.iload_n 0, 1) := by decide +kernel
theorem dJ3_checkFromIndexSize_8c36e_17 : decode cJ3_checkFromIndexSize_8c36e 17 = .ok (.iload_n 1, 1) := by decide +kernel
theorem dJ3_checkFromIndexSize_8c36e_18 : decode cJ3_checkFromIndexSize_8c36e 18 = .ok (.iload_n 2, 1) := by decide +kernel
theorem dJ3_checkFromIndexSize_8c36e_19 : decode cJ3_checkFromIndexSize_8c36e 19 = .ok (.invokestatic 103, 3) := by decide +kernel
theorem dJ3_checkFromIndexSize_8c36e_22 : decode cJ3_checkFromIndexSize_8c36e 22 = .ok (.athrow, 1) := by decide +kernel
theorem dJ3_checkFromIndexSize_8c36e_23 : decode cJ3_checkFromIndexSize_8c36e 23 = .ok (.iload_n 0, 1) := by decide +kernel
theorem dJ3_checkFromIndexSize_8c36e_24 : decode cJ3_checkFromIndexSize_8c36e 24 = .ok (.ireturn, 1) := by decide +kernel

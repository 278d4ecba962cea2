theorem dX0_init_0 : decode cX0_init 0 = .ok (.aload_n 0, 1) := by decide +kernel
theorem dX0_init_1 : decode cX0_init 1 = .ok (.invokespecial 3, 3) := by decide +kernel
theorem dX0_init_4 : decode cX0_init 4 = .ok (.aload_n 0, 1) := by decide +kernel
theorem dX0_init_5 : decode cX0_init 5 = .ok (.bipush 12, 2) := by decide +kernel
theorem dX0_init_7 : decode cX0_init 7 = .ok (.newarray .int, 2) := by decide +kernel
theorem dX0_init_9 : decode cX0_init 9 = .ok (.putfield 9, 3) := by decide +kernel
theorem dX0_init_12 : decode cX0_init 12 = .ok (.aload_n 0, 1) := by decide +kernel
theorem dX0_init_13 : decode cX0_init 13 = .ok (.bipush 12, 2) := by decide +kernel
theorem dX0_init_15 : decode cX0_init 15 = .ok (.newarray .int, 2) := by decide +kernel
theorem dX0_init_17 : decode cX0_init 17 = .ok (.putfield 15, 3) := by decide +kernel
theorem dX0_init_20 : decode cX0_init 20 = .ok (.aload_n 0, 1) := by decide +kernel
theorem dX0_init_21 : decode cX0_init 21 = .ok (.bipush 12, 2) := by decide +kernel
theorem dX0_init_23 : decode cX0_init 23 = .ok (.newarray .int, 2) := by decide +kernel
theorem dX0_init_25 : decode cX0_init 25 = .ok (.putfield 18, 3) := by decide +kernel
theorem dX0_init_28 : decode cX0_init 28 = .ok (.aload_n 0, 1) := by decide +kernel
theorem dX0_init_29 : decode cX0_init 29 = .ok (.aload_n 1, 1) := by decide +kernel
theorem dX0_init_30 : decode cX0_init 30 = .ok (.putfield 21, 3) := by decide +kernel
theorem dX0_init_33 : decode cX0_init 33 = .ok (.aload_n 0, 1) := by decide +kernel
theorem dX0_init_34 : decode cX0_init 34 = .ok (.getfield 9, 3) := by decide +kernel
theorem dX0_init_37 : decode cX0_init 37 = .ok (.iconst (-1), 1) := by decide +kernel
theorem dX0_init_38 : decode cX0_init 38 = .ok (.invokestatic 25, 3) := by decide +kernel
theorem dX0_init_41 : decode cX0_init 41 = .ok (.return_, 1) := by decide +kernel
theorem dX0_begin_0 : decode cX0_begin 0 = .ok (.aload_n 0, 1) := by decide +kernel
theorem dX0_begin_1 : decode cX0_begin 1 = .ok (.iconst 0, 1) := by decide +kernel
theorem dX0_begin_2 : decode cX0_begin 2 = .ok (.putfield 31, 3) := by decide +kernel
theorem dX0_begin_5 : decode cX0_begin 5 = .ok (.aload_n 0, 1) := by decide +kernel
theorem dX0_begin_6 : decode cX0_begin 6 = .ok (.iconst 0, 1) := by decide +kernel
theorem dX0_begin_7 : decode cX0_begin 7 = .ok (.putfield 35, 3) := by decide +kernel
theorem dX0_begin_10 : decode cX0_begin 10 = .ok (.aload_n 0, 1) := by decide +kernel
theorem dX0_begin_11 : decode cX0_begin 11 = .ok (.iconst 0, 1) := by decide +kernel
theorem dX0_begin_12 : decode cX0_begin 12 = .ok (.putfield 38, 3) := by decide +kernel
theorem dX0_begin_15 : decode cX0_begin 15 = .ok (.aload_n 0, 1) := by decide +kernel
theorem dX0_begin_16 : decode cX0_begin 16 = .ok (.iconst 0, 1) := by decide +kernel
theorem dX0_begin_17 : decode cX0_begin 17 = .ok (.putfield 41, 3) := by decide +kernel
theorem dX0_begin_20 : decode cX0_begin 20 = .ok (.aload_n 0, 1) := by decide +kernel
theorem dX0_begin_21 : decode cX0_begin 21 = .ok (.iconst 0, 1) := by decide +kernel
theorem dX0_begin_22 : decode cX0_begin 22 = .ok (.putfield 44, 3) := by decide +kernel
theorem dX0_begin_25 : decode cX0_begin 25 = .ok (.aload_n 0, 1) := by decide +kernel
theorem dX0_begin_26 : decode cX0_begin 26 = .ok (.iconst 0, 1) := by decide +kernel
theorem dX0_begin_27 : decode cX0_begin 27 = .ok (.putfield 47, 3) := by decide +kernel
theorem dX0_begin_30 : decode cX0_begin 30 = .ok (.aload_n 0, 1) := by decide +kernel
theorem dX0_begin_31 : decode cX0_begin 31 = .ok (.getfield 9, 3) := by decide +kernel
theorem dX0_begin_34 : decode cX0_begin 34 = .ok (.iconst (-1), 1) := by decide +kernel
theorem dX0_begin_35 : decode cX0_begin 35 = .ok (.invokestatic 25, 3) := by decide +kernel
theorem dX0_begin_38 : decode cX0_begin 38 = .ok (.aload_n 0, 1) := by decide +kernel
theorem dX0_begin_39 : decode cX0_begin 39 = .ok (.getfield 15, 3) := by decide +kernel
theorem dX0_begin_42 : decode cX0_begin 42 = .ok (.iconst 0, 1) := by decide +kernel
theorem dX0_begin_43 : decode cX0_begin 43 = .ok (.invokestatic 25, 3) := by decide +kernel
theorem dX0_begin_46 : decode cX0_begin 46 = .ok (.aload_n 0, 1) := by decide +kernel
theorem dX0_begin_47 : decode cX0_begin 47 = .ok (.getfield 18, 3) := by decide +kernel
theorem dX0_begin_50 : decode cX0_begin 50 = .ok (.iconst 0, 1) := by decide +kernel
theorem dX0_begin_51 : decode cX0_begin 51 = .ok (.invokestatic 25, 3) := by decide +kernel
theorem dX0_begin_54 : decode cX0_begin 54 = .ok (.return_, 1) := by decide +kernel
theorem dX0_copyFrom_0 : decode cX0_copyFrom 0 = .ok (.aload_n 0, 1) := by decide +kernel
theorem dX0_copyFrom_1 : decode cX0_copyFrom 1 = .ok (.aload_n 1, 1) := by decide +kernel
theorem dX0_copyFrom_2 : decode cX0_copyFrom 2 = .ok (.getfield 31, 3) := by decide +kernel
theorem dX0_copyFrom_5 : decode cX0_copyFrom 5 = .ok (.putfield 31, 3) := by decide +kernel
theorem dX0_copyFrom_8 : decode cX0_copyFrom 8 = .ok (.aload_n 0, 1) := by decide +kernel
theorem dX0_copyFrom_9 : decode cX0_copyFrom 9 = .ok (.aload_n 1, 1) := by decide +kernel
theorem dX0_copyFrom_10 : decode cX0_copyFrom 10 = .ok (.getfield 35, 3) := by decide +kernel
theorem dX0_copyFrom_13 : decode cX0_copyFrom 13 = .ok (.putfield 35, 3) := by decide +kernel
theorem dX0_copyFrom_16 : decode cX0_copyFrom 16 = .ok (.aload_n 0, 1) := by decide +kernel
theorem dX0_copyFrom_17 : decode cX0_copyFrom 17 = .ok (.aload_n 1, 1) := by decide +kernel
theorem dX0_copyFrom_18 : decode cX0_copyFrom 18 = .ok (.getfield 38, 3) := by decide +kernel
theorem dX0_copyFrom_21 : decode cX0_copyFrom 21 = .ok (.putfield 38, 3) := by decide +kernel
theorem dX0_copyFrom_24 : decode cX0_copyFrom 24 = .ok (.aload_n 0, 1) := by decide +kernel
theorem dX0_copyFrom_25 : decode cX0_copyFrom 25 = .ok (.aload_n 1, 1) := by decide +kernel
theorem dX0_copyFrom_26 : decode cX0_copyFrom 26 = .ok (.getfield 41, 3) := by decide +kernel
theorem dX0_copyFrom_29 : decode cX0_copyFrom 29 = .ok (.putfield 41, 3) := by decide +kernel
theorem dX0_copyFrom_32 : decode cX0_copyFrom 32 = .ok (.aload_n 0, 1) := by decide +kernel
theorem dX0_copyFrom_33 : decode cX0_copyFrom 33 = .ok (.aload_n 1, 1) := by decide +kernel
theorem dX0_copyFrom_34 : decode cX0_copyFrom 34 = .ok (.getfield 44, 3) := by decide +kernel
theorem dX0_copyFrom_37 : decode cX0_copyFrom 37 = .ok (.putfield 44, 3) := by decide +kernel
theorem dX0_copyFrom_40 : decode cX0_copyFrom 40 = .ok (.aload_n 1, 1) := by decide +kernel
theorem dX0_copyFrom_41 : decode cX0_copyFrom 41 = .ok (.getfield 9, 3) := by decide +kernel
theorem dX0_copyFrom_44 : decode cX0_copyFrom 44 = .ok (.iconst 0, 1) := by decide +kernel
theorem dX0_copyFrom_45 : decode cX0_copyFrom 45 = .ok (.aload_n 0, 1) := by decide +kernel
theorem dX0_copyFrom_46 : decode cX0_copyFrom 46 = .ok (.getfield 9, 3) := by decide +kernel
theorem dX0_copyFrom_49 : decode cX0_copyFrom 49 = .ok (.iconst 0, 1) := by decide +kernel
theorem dX0_copyFrom_50 : decode cX0_copyFrom 50 = .ok (.bipush 12, 2) := by decide +kernel
theorem dX0_copyFrom_52 : decode cX0_copyFrom 52 = .ok (.invokestatic 50, 3) := by decide +kernel
theorem dX0_copyFrom_55 : decode cX0_copyFrom 55 = .ok (.aload_n 1, 1) := by decide +kernel
theorem dX0_copyFrom_56 : decode cX0_copyFrom 56 = .ok (.getfield 15, 3) := by decide +kernel
theorem dX0_copyFrom_59 : decode cX0_copyFrom 59 = .ok (.iconst 0, 1) := by decide +kernel
theorem dX0_copyFrom_60 : decode cX0_copyFrom 60 = .ok (.aload_n 0, 1) := by decide +kernel
theorem dX0_copyFrom_61 : decode cX0_copyFrom 61 = .ok (.getfield 15, 3) := by decide +kernel
theorem dX0_copyFrom_64 : decode cX0_copyFrom 64 = .ok (.iconst 0, 1) := by decide +kernel
theorem dX0_copyFrom_65 : decode cX0_copyFrom 65 = .ok (.bipush 12, 2) := by decide +kernel
theorem dX0_copyFrom_67 : decode cX0_copyFrom 67 = .ok (.invokestatic 50, 3) := by decide +kernel
theorem dX0_copyFrom_70 : decode cX0_copyFrom 70 = .ok (.return_, 1) := by decide +kernel
theorem dX0_stateOf_0 : decode cX0_stateOf 0 = .ok (.iconst 1, 1) := by decide +kernel
theorem dX0_stateOf_1 : decode cX0_stateOf 1 = .ok (.iload_n 1, 1) := by decide +kernel
theorem dX0_stateOf_2 : decode cX0_stateOf 2 = .ok (.ishl, 1) := by decide +kernel
theorem dX0_stateOf_3 : decode cX0_stateOf 3 = .ok (.istore_n 2, 1) := by decide +kernel
theorem dX0_stateOf_4 : decode cX0_stateOf 4 = .ok (.aload_n 0, 1) := by decide +kernel
theorem dX0_stateOf_5 : decode cX0_stateOf 5 = .ok (.getfield 44, 3) := by decide +kernel
theorem dX0_stateOf_8 : decode cX0_stateOf 8 = .ok (.iload_n 2, 1) := by decide +kernel
theorem dX0_stateOf_9 : decode cX0_stateOf 9 = .ok (.iand, 1) := by decide +kernel
theorem dX0_stateOf_10 : decode cX0_stateOf 10 = .ok (.ifCond .eq 5, 3) := by decide +kernel
theorem dX0_stateOf_13 : decode cX0_stateOf 13 = .ok (.iconst 2, 1) := by decide +kernel
theorem dX0_stateOf_14 : decode cX0_stateOf 14 = .ok (.ireturn, 1) := by decide +kernel
theorem dX0_stateOf_15 : decode cX0_stateOf 15 = .ok (.aload_n 0, 1) := by decide +kernel
theorem dX0_stateOf_16 : decode cX0_stateOf 16 = .ok (.getfield 41, 3) := by decide +kernel
theorem dX0_stateOf_19 : decode cX0_stateOf 19 = .ok (.iload_n 2, 1) := by decide +kernel
theorem dX0_stateOf_20 : decode cX0_stateOf 20 = .ok (.iand, 1) := by decide +kernel
theorem dX0_stateOf_21 : decode cX0_stateOf 21 = .ok (.ifCond .eq 7, 3) := by decide +kernel
theorem dX0_stateOf_24 : decode cX0_stateOf 24 = .ok (.iconst 1, 1) := by decide +kernel
theorem dX0_stateOf_25 : decode cX0_stateOf 25 = .ok (.goto 4, 3) := by decide +kernel
theorem dX0_stateOf_28 : decode cX0_stateOf 28 = .ok (.iconst 0, 1) := by decide +kernel
theorem dX0_stateOf_29 : decode cX0_stateOf 29 = .ok (.ireturn, 1) := by decide +kernel
theorem dX0_passHour_0 : decode cX0_passHour 0 = .ok (.aload_n 0, 1) := by decide +kernel
theorem dX0_passHour_1 : decode cX0_passHour 1 = .ok (.iload_n 2, 1) := by decide +kernel
theorem dX0_passHour_2 : decode cX0_passHour 2 = .ok (.invokevirtual 56, 3) := by decide +kernel
theorem dX0_passHour_5 : decode cX0_passHour 5 = .ok (.aload_n 0, 1) := by decide +kernel
theorem dX0_passHour_6 : decode cX0_passHour 6 = .ok (.iconst 0, 1) := by decide +kernel
theorem dX0_passHour_7 : decode cX0_passHour 7 = .ok (.putfield 60, 3) := by decide +kernel
theorem dX0_passHour_10 : decode cX0_passHour 10 = .ok (.aload_n 0, 1) := by decide +kernel
theorem dX0_passHour_11 : decode cX0_passHour 11 = .ok (.getfield 21, 3) := by decide +kernel
theorem dX0_passHour_14 : decode cX0_passHour 14 = .ok (.getfield 63, 3) := by decide +kernel
theorem dX0_passHour_17 : decode cX0_passHour 17 = .ok (.iload_n 2, 1) := by decide +kernel
theorem dX0_passHour_18 : decode cX0_passHour 18 = .ok (.iaload, 1) := by decide +kernel
theorem dX0_passHour_19 : decode cX0_passHour 19 = .ok (.istore_n 3, 1) := by decide +kernel
theorem dX0_passHour_20 : decode cX0_passHour 20 = .ok (.iload_n 3, 1) := by decide +kernel
theorem dX0_passHour_21 : decode cX0_passHour 21 = .ok (.aload_n 0, 1) := by decide +kernel
theorem dX0_passHour_22 : decode cX0_passHour 22 = .ok (.getfield 21, 3) := by decide +kernel
theorem dX0_passHour_25 : decode cX0_passHour 25 = .ok (.getfield 63, 3) := by decide +kernel
theorem dX0_passHour_28 : decode cX0_passHour 28 = .ok (.iload_n 2, 1) := by decide +kernel
theorem dX0_passHour_29 : decode cX0_passHour 29 = .ok (.iconst 1, 1) := by decide +kernel
theorem dX0_passHour_30 : decode cX0_passHour 30 = .ok (.iadd, 1) := by decide +kernel
theorem dX0_passHour_31 : decode cX0_passHour 31 = .ok (.iaload, 1) := by decide +kernel
theorem dX0_passHour_32 : decode cX0_passHour 32 = .ok (.if_icmp .ge 48, 3) := by decide +kernel
theorem dX0_passHour_35 : decode cX0_passHour 35 = .ok (.aload_n 1, 1) := by decide +kernel
theorem dX0_passHour_36 : decode cX0_passHour 36 = .ok (.getfield 68, 3) := by decide +kernel
theorem dX0_passHour_39 : decode cX0_passHour 39 = .ok (.iload_n 3, 1) := by decide +kernel
theorem dX0_passHour_40 : decode cX0_passHour 40 = .ok (.iaload, 1) := by decide +kernel
theorem dX0_passHour_41 : decode cX0_passHour 41 = .ok (.istore 4, 2) := by decide +kernel
theorem dX0_passHour_43 : decode cX0_passHour 43 = .ok (.iload 4, 2) := by decide +kernel
theorem dX0_passHour_45 : decode cX0_passHour 45 = .ok (.aload_n 1, 1) := by decide +kernel
theorem dX0_passHour_46 : decode cX0_passHour 46 = .ok (.getfield 68, 3) := by decide +kernel
theorem dX0_passHour_49 : decode cX0_passHour 49 = .ok (.iload_n 3, 1) := by decide +kernel
theorem dX0_passHour_50 : decode cX0_passHour 50 = .ok (.iconst 1, 1) := by decide +kernel
theorem dX0_passHour_51 : decode cX0_passHour 51 = .ok (.iadd, 1) := by decide +kernel
theorem dX0_passHour_52 : decode cX0_passHour 52 = .ok (.iaload, 1) := by decide +kernel
theorem dX0_passHour_53 : decode cX0_passHour 53 = .ok (.if_icmp .ge 21, 3) := by decide +kernel
theorem dX0_passHour_56 : decode cX0_passHour 56 = .ok (.aload_n 0, 1) := by decide +kernel
theorem dX0_passHour_57 : decode cX0_passHour 57 = .ok (.aload_n 1, 1) := by decide +kernel
theorem dX0_passHour_58 : decode cX0_passHour 58 = .ok (.aload_n 1, 1) := by decide +kernel
theorem dX0_passHour_59 : decode cX0_passHour 59 = .ok (.getfield 73, 3) := by decide +kernel
theorem dX0_passHour_62 : decode cX0_passHour 62 = .ok (.iload 4, 2) := by decide +kernel
theorem dX0_passHour_64 : decode cX0_passHour 64 = .ok (.iaload, 1) := by decide +kernel
theorem dX0_passHour_65 : decode cX0_passHour 65 = .ok (.invokevirtual 76, 3) := by decide +kernel
theorem dX0_passHour_68 : decode cX0_passHour 68 = .ok (.iinc 4 1, 3) := by decide +kernel
theorem dX0_passHour_71 : decode cX0_passHour 71 = .ok (.goto (-28), 3) := by decide +kernel
theorem dX0_passHour_74 : decode cX0_passHour 74 = .ok (.iinc 3 1, 3) := by decide +kernel
theorem dX0_passHour_77 : decode cX0_passHour 77 = .ok (.goto (-57), 3) := by decide +kernel
theorem dX0_passHour_80 : decode cX0_passHour 80 = .ok (.return_, 1) := by decide +kernel
theorem dX0_makePromises_0 : decode cX0_makePromises 0 = .ok (.iconst 0, 1) := by decide +kernel
theorem dX0_makePromises_1 : decode cX0_makePromises 1 = .ok (.istore_n 2, 1) := by decide +kernel
theorem dX0_makePromises_2 : decode cX0_makePromises 2 = .ok (.iload_n 2, 1) := by decide +kernel
theorem dX0_makePromises_3 : decode cX0_makePromises 3 = .ok (.aload_n 0, 1) := by decide +kernel
theorem dX0_makePromises_4 : decode cX0_makePromises 4 = .ok (.getfield 21, 3) := by decide +kernel
theorem dX0_makePromises_7 : decode cX0_makePromises 7 = .ok (.getfield 80, 3) := by decide +kernel
theorem dX0_makePromises_10 : decode cX0_makePromises 10 = .ok (.if_icmp .ge 106, 3) := by decide +kernel
theorem dX0_makePromises_13 : decode cX0_makePromises 13 = .ok (.aload_n 0, 1) := by decide +kernel
theorem dX0_makePromises_14 : decode cX0_makePromises 14 = .ok (.getfield 21, 3) := by decide +kernel
theorem dX0_makePromises_17 : decode cX0_makePromises 17 = .ok (.getfield 83, 3) := by decide +kernel
theorem dX0_makePromises_20 : decode cX0_makePromises 20 = .ok (.iload_n 2, 1) := by decide +kernel
theorem dX0_makePromises_21 : decode cX0_makePromises 21 = .ok (.iaload, 1) := by decide +kernel
theorem dX0_makePromises_22 : decode cX0_makePromises 22 = .ok (.aload_n 0, 1) := by decide +kernel
theorem dX0_makePromises_23 : decode cX0_makePromises 23 = .ok (.getfield 31, 3) := by decide +kernel
theorem dX0_makePromises_26 : decode cX0_makePromises 26 = .ok (.if_icmp .ne 84, 3) := by decide +kernel
theorem dX0_makePromises_29 : decode cX0_makePromises 29 = .ok (.aload_n 0, 1) := by decide +kernel
theorem dX0_makePromises_30 : decode cX0_makePromises 30 = .ok (.getfield 21, 3) := by decide +kernel
theorem dX0_makePromises_33 : decode cX0_makePromises 33 = .ok (.getfield 86, 3) := by decide +kernel
theorem dX0_makePromises_36 : decode cX0_makePromises 36 = .ok (.iload_n 2, 1) := by decide +kernel
theorem dX0_makePromises_37 : decode cX0_makePromises 37 = .ok (.iaload, 1) := by decide +kernel
theorem dX0_makePromises_38 : decode cX0_makePromises 38 = .ok (.iload_n 1, 1) := by decide +kernel
theorem dX0_makePromises_39 : decode cX0_makePromises 39 = .ok (.if_icmp .ne 71, 3) := by decide +kernel
theorem dX0_makePromises_42 : decode cX0_makePromises 42 = .ok (.aload_n 0, 1) := by decide +kernel
theorem dX0_makePromises_43 : decode cX0_makePromises 43 = .ok (.getfield 21, 3) := by decide +kernel
theorem dX0_makePromises_46 : decode cX0_makePromises 46 = .ok (.getfield 89, 3) := by decide +kernel
theorem dX0_makePromises_49 : decode cX0_makePromises 49 = .ok (.iload_n 2, 1) := by decide +kernel
theorem dX0_makePromises_50 : decode cX0_makePromises 50 = .ok (.iaload, 1) := by decide +kernel
theorem dX0_makePromises_51 : decode cX0_makePromises 51 = .ok (.aload_n 0, 1) := by decide +kernel
theorem dX0_makePromises_52 : decode cX0_makePromises 52 = .ok (.getfield 41, 3) := by decide +kernel
theorem dX0_makePromises_55 : decode cX0_makePromises 55 = .ok (.iconst (-1), 1) := by decide +kernel
theorem dX0_makePromises_56 : decode cX0_makePromises 56 = .ok (.ixor, 1) := by decide +kernel
theorem dX0_makePromises_57 : decode cX0_makePromises 57 = .ok (.iand, 1) := by decide +kernel
theorem dX0_makePromises_58 : decode cX0_makePromises 58 = .ok (.ifCond .eq 11, 3) := by decide +kernel
theorem dX0_makePromises_61 : decode cX0_makePromises 61 = .ok (.aload_n 0, 1) := by decide +kernel
theorem dX0_makePromises_62 : decode cX0_makePromises 62 = .ok (.iload_n 2, 1) := by decide +kernel
theorem dX0_makePromises_63 : decode cX0_makePromises 63 = .ok (.invokevirtual 92, 3) := by decide +kernel
theorem dX0_makePromises_66 : decode cX0_makePromises 66 = .ok (.goto 44, 3) := by decide +kernel
theorem dX0_makePromises_69 : decode cX0_makePromises 69 = .ok (.aload_n 0, 1) := by decide +kernel
theorem dX0_makePromises_70 : decode cX0_makePromises 70 = .ok (.dup, 1) := by decide +kernel
theorem dX0_makePromises_71 : decode cX0_makePromises 71 = .ok (.getfield 41, 3) := by decide +kernel
theorem dX0_makePromises_74 : decode cX0_makePromises 74 = .ok (.iconst 1, 1) := by decide +kernel
theorem dX0_makePromises_75 : decode cX0_makePromises 75 = .ok (.iload_n 2, 1) := by decide +kernel
theorem dX0_makePromises_76 : decode cX0_makePromises 76 = .ok (.ishl, 1) := by decide +kernel
theorem dX0_makePromises_77 : decode cX0_makePromises 77 = .ok (.ior, 1) := by decide +kernel
theorem dX0_makePromises_78 : decode cX0_makePromises 78 = .ok (.putfield 41, 3) := by decide +kernel
theorem dX0_makePromises_81 : decode cX0_makePromises 81 = .ok (.aload_n 0, 1) := by decide +kernel
theorem dX0_makePromises_82 : decode cX0_makePromises 82 = .ok (.getfield 18, 3) := by decide +kernel
theorem dX0_makePromises_85 : decode cX0_makePromises 85 = .ok (.iload_n 2, 1) := by decide +kernel
theorem dX0_makePromises_86 : decode cX0_makePromises 86 = .ok (.iconst 1, 1) := by decide +kernel
theorem dX0_makePromises_87 : decode cX0_makePromises 87 = .ok (.aload_n 0, 1) := by decide +kernel
theorem dX0_makePromises_88 : decode cX0_makePromises 88 = .ok (.getfield 21, 3) := by decide +kernel
theorem dX0_makePromises_91 : decode cX0_makePromises 91 = .ok (.getfield 95, 3) := by decide +kernel
theorem dX0_makePromises_94 : decode cX0_makePromises 94 = .ok (.iload_n 2, 1) := by decide +kernel
theorem dX0_makePromises_95 : decode cX0_makePromises 95 = .ok (.iaload, 1) := by decide +kernel
theorem dX0_makePromises_96 : decode cX0_makePromises 96 = .ok (.ishl, 1) := by decide +kernel
theorem dX0_makePromises_97 : decode cX0_makePromises 97 = .ok (.iconst 1, 1) := by decide +kernel
theorem dX0_makePromises_98 : decode cX0_makePromises 98 = .ok (.aload_n 0, 1) := by decide +kernel
theorem dX0_makePromises_99 : decode cX0_makePromises 99 = .ok (.getfield 21, 3) := by decide +kernel
theorem dX0_makePromises_102 : decode cX0_makePromises 102 = .ok (.getfield 98, 3) := by decide +kernel
theorem dX0_makePromises_105 : decode cX0_makePromises 105 = .ok (.iload_n 2, 1) := by decide +kernel
theorem dX0_makePromises_106 : decode cX0_makePromises 106 = .ok (.iaload, 1) := by decide +kernel
theorem dX0_makePromises_107 : decode cX0_makePromises 107 = .ok (.ishl, 1) := by decide +kernel
theorem dX0_makePromises_108 : decode cX0_makePromises 108 = .ok (.ior, 1) := by decide +kernel
theorem dX0_makePromises_109 : decode cX0_makePromises 109 = .ok (.iastore, 1) := by decide +kernel
theorem dX0_makePromises_110 : decode cX0_makePromises 110 = .ok (.iinc 2 1, 3) := by decide +kernel
theorem dX0_makePromises_113 : decode cX0_makePromises 113 = .ok (.goto (-111), 3) := by decide +kernel
theorem dX0_makePromises_116 : decode cX0_makePromises 116 = .ok (.return_, 1) := by decide +kernel
theorem dX0_trySaying_0 : decode cX0_trySaying 0 = .ok (.aload_n 1, 1) := by decide +kernel
theorem dX0_trySaying_1 : decode cX0_trySaying 1 = .ok (.getfield 101, 3) := by decide +kernel
theorem dX0_trySaying_4 : decode cX0_trySaying 4 = .ok (.iload_n 2, 1) := by decide +kernel
theorem dX0_trySaying_5 : decode cX0_trySaying 5 = .ok (.iaload, 1) := by decide +kernel
theorem dX0_trySaying_6 : decode cX0_trySaying 6 = .ok (.iconst (-1), 1) := by decide +kernel
theorem dX0_trySaying_7 : decode cX0_trySaying 7 = .ok (.if_icmp .eq 17, 3) := by decide +kernel
theorem dX0_trySaying_10 : decode cX0_trySaying 10 = .ok (.aload_n 1, 1) := by decide +kernel
theorem dX0_trySaying_11 : decode cX0_trySaying 11 = .ok (.getfield 101, 3) := by decide +kernel
theorem dX0_trySaying_14 : decode cX0_trySaying 14 = .ok (.iload_n 2, 1) := by decide +kernel
theorem dX0_trySaying_15 : decode cX0_trySaying 15 = .ok (.iaload, 1) := by decide +kernel
theorem dX0_trySaying_16 : decode cX0_trySaying 16 = .ok (.aload_n 0, 1) := by decide +kernel
theorem dX0_trySaying_17 : decode cX0_trySaying 17 = .ok (.getfield 31, 3) := by decide +kernel
theorem dX0_trySaying_20 : decode cX0_trySaying 20 = .ok (.if_icmp .eq 4, 3) := by decide +kernel
theorem dX0_trySaying_23 : decode cX0_trySaying 23 = .ok (.return_, 1) := by decide +kernel
theorem dX0_trySaying_24 : decode cX0_trySaying 24 = .ok (.aload_n 1, 1) := by decide +kernel
theorem dX0_trySaying_25 : decode cX0_trySaying 25 = .ok (.getfield 103, 3) := by decide +kernel
theorem dX0_trySaying_28 : decode cX0_trySaying 28 = .ok (.iload_n 2, 1) := by decide +kernel
theorem dX0_trySaying_29 : decode cX0_trySaying 29 = .ok (.iaload, 1) := by decide +kernel
theorem dX0_trySaying_30 : decode cX0_trySaying 30 = .ok (.istore_n 3, 1) := by decide +kernel
theorem dX0_trySaying_31 : decode cX0_trySaying 31 = .ok (.aload_n 1, 1) := by decide +kernel
theorem dX0_trySaying_32 : decode cX0_trySaying 32 = .ok (.getfield 106, 3) := by decide +kernel
theorem dX0_trySaying_35 : decode cX0_trySaying 35 = .ok (.iload_n 2, 1) := by decide +kernel
theorem dX0_trySaying_36 : decode cX0_trySaying 36 = .ok (.iaload, 1) := by decide +kernel
theorem dX0_trySaying_37 : decode cX0_trySaying 37 = .ok (.istore 4, 2) := by decide +kernel
theorem dX0_trySaying_39 : decode cX0_trySaying 39 = .ok (.aload_n 0, 1) := by decide +kernel
theorem dX0_trySaying_40 : decode cX0_trySaying 40 = .ok (.getfield 21, 3) := by decide +kernel
theorem dX0_trySaying_43 : decode cX0_trySaying 43 = .ok (.iload_n 3, 1) := by decide +kernel
theorem dX0_trySaying_44 : decode cX0_trySaying 44 = .ok (.invokevirtual 109, 3) := by decide +kernel
theorem dX0_trySaying_47 : decode cX0_trySaying 47 = .ok (.istore 5, 2) := by decide +kernel
theorem dX0_trySaying_49 : decode cX0_trySaying 49 = .ok (.aload_n 0, 1) := by decide +kernel
theorem dX0_trySaying_50 : decode cX0_trySaying 50 = .ok (.getfield 21, 3) := by decide +kernel
theorem dX0_trySaying_53 : decode cX0_trySaying 53 = .ok (.iload_n 3, 1) := by decide +kernel
theorem dX0_trySaying_54 : decode cX0_trySaying 54 = .ok (.aload_n 1, 1) := by decide +kernel
theorem dX0_trySaying_55 : decode cX0_trySaying 55 = .ok (.getfield 113, 3) := by decide +kernel
theorem dX0_trySaying_58 : decode cX0_trySaying 58 = .ok (.iload_n 2, 1) := by decide +kernel
theorem dX0_trySaying_59 : decode cX0_trySaying 59 = .ok (.iaload, 1) := by decide +kernel
theorem dX0_trySaying_60 : decode cX0_trySaying 60 = .ok (.invokevirtual 116, 3) := by decide +kernel
theorem dX0_trySaying_63 : decode cX0_trySaying 63 = .ok (.istore 6, 2) := by decide +kernel
theorem dX0_trySaying_65 : decode cX0_trySaying 65 = .ok (.aload_n 0, 1) := by decide +kernel
theorem dX0_trySaying_66 : decode cX0_trySaying 66 = .ok (.getfield 15, 3) := by decide +kernel
theorem dX0_trySaying_69 : decode cX0_trySaying 69 = .ok (.iload 4, 2) := by decide +kernel
theorem dX0_trySaying_71 : decode cX0_trySaying 71 = .ok (.iaload, 1) := by decide +kernel
theorem dX0_trySaying_72 : decode cX0_trySaying 72 = .ok (.aload_n 0, 1) := by decide +kernel
theorem dX0_trySaying_73 : decode cX0_trySaying 73 = .ok (.getfield 18, 3) := by decide +kernel
theorem dX0_trySaying_76 : decode cX0_trySaying 76 = .ok (.iload 4, 2) := by decide +kernel
theorem dX0_trySaying_78 : decode cX0_trySaying 78 = .ok (.iaload, 1) := by decide +kernel
theorem dX0_trySaying_79 : decode cX0_trySaying 79 = .ok (.ior, 1) := by decide +kernel
theorem dX0_trySaying_80 : decode cX0_trySaying 80 = .ok (.aload_n 0, 1) := by decide +kernel
theorem dX0_trySaying_81 : decode cX0_trySaying 81 = .ok (.getfield 60, 3) := by decide +kernel
theorem dX0_trySaying_84 : decode cX0_trySaying 84 = .ok (.iconst (-1), 1) := by decide +kernel
theorem dX0_trySaying_85 : decode cX0_trySaying 85 = .ok (.ixor, 1) := by decide +kernel
theorem dX0_trySaying_86 : decode cX0_trySaying 86 = .ok (.iand, 1) := by decide +kernel
theorem dX0_trySaying_87 : decode cX0_trySaying 87 = .ok (.istore 7, 2) := by decide +kernel
theorem dX0_trySaying_89 : decode cX0_trySaying 89 = .ok (.aload_n 0, 1) := by decide +kernel
theorem dX0_trySaying_90 : decode cX0_trySaying 90 = .ok (.getfield 41, 3) := by decide +kernel
theorem dX0_trySaying_93 : decode cX0_trySaying 93 = .ok (.iload 4, 2) := by decide +kernel
theorem dX0_trySaying_95 : decode cX0_trySaying 95 = .ok (.ishr, 1) := by decide +kernel
theorem dX0_trySaying_96 : decode cX0_trySaying 96 = .ok (.iconst 1, 1) := by decide +kernel
theorem dX0_trySaying_97 : decode cX0_trySaying 97 = .ok (.iand, 1) := by decide +kernel
theorem dX0_trySaying_98 : decode cX0_trySaying 98 = .ok (.ifCond .eq 13, 3) := by decide +kernel
theorem dX0_trySaying_101 : decode cX0_trySaying 101 = .ok (.iload 7, 2) := by decide +kernel
theorem dX0_trySaying_103 : decode cX0_trySaying 103 = .ok (.iload 6, 2) := by decide +kernel
theorem dX0_trySaying_105 : decode cX0_trySaying 105 = .ok (.ishr, 1) := by decide +kernel
theorem dX0_trySaying_106 : decode cX0_trySaying 106 = .ok (.iconst 1, 1) := by decide +kernel
theorem dX0_trySaying_107 : decode cX0_trySaying 107 = .ok (.iand, 1) := by decide +kernel
theorem dX0_trySaying_108 : decode cX0_trySaying 108 = .ok (.ifCond .ne 4, 3) := by decide +kernel
theorem dX0_trySaying_111 : decode cX0_trySaying 111 = .ok (.return_, 1) := by decide +kernel
theorem dX0_trySaying_112 : decode cX0_trySaying 112 = .ok (.aload_n 0, 1) := by decide +kernel
theorem dX0_trySaying_113 : decode cX0_trySaying 113 = .ok (.dup, 1) := by decide +kernel
theorem dX0_trySaying_114 : decode cX0_trySaying 114 = .ok (.getfield 60, 3) := by decide +kernel
theorem dX0_trySaying_117 : decode cX0_trySaying 117 = .ok (.iconst 1, 1) := by decide +kernel
theorem dX0_trySaying_118 : decode cX0_trySaying 118 = .ok (.iload 6, 2) := by decide +kernel
theorem dX0_trySaying_120 : decode cX0_trySaying 120 = .ok (.ishl, 1) := by decide +kernel
theorem dX0_trySaying_121 : decode cX0_trySaying 121 = .ok (.ior, 1) := by decide +kernel
theorem dX0_trySaying_122 : decode cX0_trySaying 122 = .ok (.putfield 60, 3) := by decide +kernel
theorem dX0_trySaying_125 : decode cX0_trySaying 125 = .ok (.aload_n 0, 1) := by decide +kernel
theorem dX0_trySaying_126 : decode cX0_trySaying 126 = .ok (.dup, 1) := by decide +kernel
theorem dX0_trySaying_127 : decode cX0_trySaying 127 = .ok (.getfield 35, 3) := by decide +kernel
theorem dX0_trySaying_130 : decode cX0_trySaying 130 = .ok (.aload_n 0, 1) := by decide +kernel
theorem dX0_trySaying_131 : decode cX0_trySaying 131 = .ok (.getfield 21, 3) := by decide +kernel
theorem dX0_trySaying_134 : decode cX0_trySaying 134 = .ok (.getfield 120, 3) := by decide +kernel
theorem dX0_trySaying_137 : decode cX0_trySaying 137 = .ok (.iload 6, 2) := by decide +kernel
theorem dX0_trySaying_139 : decode cX0_trySaying 139 = .ok (.iaload, 1) := by decide +kernel
theorem dX0_trySaying_140 : decode cX0_trySaying 140 = .ok (.iadd, 1) := by decide +kernel
theorem dX0_trySaying_141 : decode cX0_trySaying 141 = .ok (.putfield 35, 3) := by decide +kernel
theorem dX0_trySaying_144 : decode cX0_trySaying 144 = .ok (.iload 5, 2) := by decide +kernel
theorem dX0_trySaying_146 : decode cX0_trySaying 146 = .ok (.iconst 1, 1) := by decide +kernel
theorem dX0_trySaying_147 : decode cX0_trySaying 147 = .ok (.iload 6, 2) := by decide +kernel
theorem dX0_trySaying_149 : decode cX0_trySaying 149 = .ok (.ishl, 1) := by decide +kernel
theorem dX0_trySaying_150 : decode cX0_trySaying 150 = .ok (.iconst (-1), 1) := by decide +kernel
theorem dX0_trySaying_151 : decode cX0_trySaying 151 = .ok (.ixor, 1) := by decide +kernel
theorem dX0_trySaying_152 : decode cX0_trySaying 152 = .ok (.iand, 1) := by decide +kernel
theorem dX0_trySaying_153 : decode cX0_trySaying 153 = .ok (.istore 8, 2) := by decide +kernel
theorem dX0_trySaying_155 : decode cX0_trySaying 155 = .ok (.aload_n 0, 1) := by decide +kernel
theorem dX0_trySaying_156 : decode cX0_trySaying 156 = .ok (.getfield 18, 3) := by decide +kernel
theorem dX0_trySaying_159 : decode cX0_trySaying 159 = .ok (.iload 4, 2) := by decide +kernel
theorem dX0_trySaying_161 : decode cX0_trySaying 161 = .ok (.iaload, 1) := by decide +kernel
theorem dX0_trySaying_162 : decode cX0_trySaying 162 = .ok (.iload 8, 2) := by decide +kernel
theorem dX0_trySaying_164 : decode cX0_trySaying 164 = .ok (.iand, 1) := by decide +kernel
theorem dX0_trySaying_165 : decode cX0_trySaying 165 = .ok (.ifCond .ne 16, 3) := by decide +kernel
theorem dX0_trySaying_168 : decode cX0_trySaying 168 = .ok (.aload_n 0, 1) := by decide +kernel
theorem dX0_trySaying_169 : decode cX0_trySaying 169 = .ok (.dup, 1) := by decide +kernel
theorem dX0_trySaying_170 : decode cX0_trySaying 170 = .ok (.getfield 47, 3) := by decide +kernel
theorem dX0_trySaying_173 : decode cX0_trySaying 173 = .ok (.iconst 1, 1) := by decide +kernel
theorem dX0_trySaying_174 : decode cX0_trySaying 174 = .ok (.iload 4, 2) := by decide +kernel
theorem dX0_trySaying_176 : decode cX0_trySaying 176 = .ok (.ishl, 1) := by decide +kernel
theorem dX0_trySaying_177 : decode cX0_trySaying 177 = .ok (.ior, 1) := by decide +kernel
theorem dX0_trySaying_178 : decode cX0_trySaying 178 = .ok (.putfield 47, 3) := by decide +kernel
theorem dX0_trySaying_181 : decode cX0_trySaying 181 = .ok (.aload_n 0, 1) := by decide +kernel
theorem dX0_trySaying_182 : decode cX0_trySaying 182 = .ok (.getfield 18, 3) := by decide +kernel
theorem dX0_trySaying_185 : decode cX0_trySaying 185 = .ok (.iload 4, 2) := by decide +kernel
theorem dX0_trySaying_187 : decode cX0_trySaying 187 = .ok (.dup2, 1) := by decide +kernel
theorem dX0_trySaying_188 : decode cX0_trySaying 188 = .ok (.iaload, 1) := by decide +kernel
theorem dX0_trySaying_189 : decode cX0_trySaying 189 = .ok (.iload 5, 2) := by decide +kernel
theorem dX0_trySaying_191 : decode cX0_trySaying 191 = .ok (.ior, 1) := by decide +kernel
theorem dX0_trySaying_192 : decode cX0_trySaying 192 = .ok (.iastore, 1) := by decide +kernel
theorem dX0_trySaying_193 : decode cX0_trySaying 193 = .ok (.return_, 1) := by decide +kernel
theorem dX0_passDusk_0 : decode cX0_passDusk 0 = .ok (.iconst 0, 1) := by decide +kernel
theorem dX0_passDusk_1 : decode cX0_passDusk 1 = .ok (.istore_n 1, 1) := by decide +kernel
theorem dX0_passDusk_2 : decode cX0_passDusk 2 = .ok (.iload_n 1, 1) := by decide +kernel
theorem dX0_passDusk_3 : decode cX0_passDusk 3 = .ok (.aload_n 0, 1) := by decide +kernel
theorem dX0_passDusk_4 : decode cX0_passDusk 4 = .ok (.getfield 21, 3) := by decide +kernel
theorem dX0_passDusk_7 : decode cX0_passDusk 7 = .ok (.getfield 80, 3) := by decide +kernel
theorem dX0_passDusk_10 : decode cX0_passDusk 10 = .ok (.if_icmp .ge 82, 3) := by decide +kernel
theorem dX0_passDusk_13 : decode cX0_passDusk 13 = .ok (.aload_n 0, 1) := by decide +kernel
theorem dX0_passDusk_14 : decode cX0_passDusk 14 = .ok (.getfield 47, 3) := by decide +kernel
theorem dX0_passDusk_17 : decode cX0_passDusk 17 = .ok (.iload_n 1, 1) := by decide +kernel
theorem dX0_passDusk_18 : decode cX0_passDusk 18 = .ok (.ishr, 1) := by decide +kernel
theorem dX0_passDusk_19 : decode cX0_passDusk 19 = .ok (.iconst 1, 1) := by decide +kernel
theorem dX0_passDusk_20 : decode cX0_passDusk 20 = .ok (.iand, 1) := by decide +kernel
theorem dX0_passDusk_21 : decode cX0_passDusk 21 = .ok (.ifCond .eq 24, 3) := by decide +kernel
theorem dX0_passDusk_24 : decode cX0_passDusk 24 = .ok (.aload_n 0, 1) := by decide +kernel
theorem dX0_passDusk_25 : decode cX0_passDusk 25 = .ok (.getfield 21, 3) := by decide +kernel
theorem dX0_passDusk_28 : decode cX0_passDusk 28 = .ok (.getfield 89, 3) := by decide +kernel
theorem dX0_passDusk_31 : decode cX0_passDusk 31 = .ok (.iload_n 1, 1) := by decide +kernel
theorem dX0_passDusk_32 : decode cX0_passDusk 32 = .ok (.iaload, 1) := by decide +kernel
theorem dX0_passDusk_33 : decode cX0_passDusk 33 = .ok (.aload_n 0, 1) := by decide +kernel
theorem dX0_passDusk_34 : decode cX0_passDusk 34 = .ok (.getfield 44, 3) := by decide +kernel
theorem dX0_passDusk_37 : decode cX0_passDusk 37 = .ok (.iand, 1) := by decide +kernel
theorem dX0_passDusk_38 : decode cX0_passDusk 38 = .ok (.ifCond .ne 7, 3) := by decide +kernel
theorem dX0_passDusk_41 : decode cX0_passDusk 41 = .ok (.iconst 1, 1) := by decide +kernel
theorem dX0_passDusk_42 : decode cX0_passDusk 42 = .ok (.goto 4, 3) := by decide +kernel
theorem dX0_passDusk_45 : decode cX0_passDusk 45 = .ok (.iconst 0, 1) := by decide +kernel
theorem dX0_passDusk_46 : decode cX0_passDusk 46 = .ok (.istore_n 2, 1) := by decide +kernel
theorem dX0_passDusk_47 : decode cX0_passDusk 47 = .ok (.aload_n 0, 1) := by decide +kernel
theorem dX0_passDusk_48 : decode cX0_passDusk 48 = .ok (.getfield 41, 3) := by decide +kernel
theorem dX0_passDusk_51 : decode cX0_passDusk 51 = .ok (.iload_n 1, 1) := by decide +kernel
theorem dX0_passDusk_52 : decode cX0_passDusk 52 = .ok (.ishr, 1) := by decide +kernel
theorem dX0_passDusk_53 : decode cX0_passDusk 53 = .ok (.iconst 1, 1) := by decide +kernel
theorem dX0_passDusk_54 : decode cX0_passDusk 54 = .ok (.iand, 1) := by decide +kernel
theorem dX0_passDusk_55 : decode cX0_passDusk 55 = .ok (.ifCond .eq 12, 3) := by decide +kernel
theorem dX0_passDusk_58 : decode cX0_passDusk 58 = .ok (.iload_n 2, 1) := by decide +kernel
theorem dX0_passDusk_59 : decode cX0_passDusk 59 = .ok (.ifCond .ne 8, 3) := by decide +kernel
theorem dX0_passDusk_62 : decode cX0_passDusk 62 = .ok (.aload_n 0, 1) := by decide +kernel
theorem dX0_passDusk_63 : decode cX0_passDusk 63 = .ok (.iload_n 1, 1) := by decide +kernel
theorem dX0_passDusk_64 : decode cX0_passDusk 64 = .ok (.invokevirtual 92, 3) := by decide +kernel
theorem dX0_passDusk_67 : decode cX0_passDusk 67 = .ok (.aload_n 0, 1) := by decide +kernel
theorem dX0_passDusk_68 : decode cX0_passDusk 68 = .ok (.getfield 15, 3) := by decide +kernel
theorem dX0_passDusk_71 : decode cX0_passDusk 71 = .ok (.iload_n 1, 1) := by decide +kernel
theorem dX0_passDusk_72 : decode cX0_passDusk 72 = .ok (.aload_n 0, 1) := by decide +kernel
theorem dX0_passDusk_73 : decode cX0_passDusk 73 = .ok (.getfield 18, 3) := by decide +kernel
theorem dX0_passDusk_76 : decode cX0_passDusk 76 = .ok (.iload_n 1, 1) := by decide +kernel
theorem dX0_passDusk_77 : decode cX0_passDusk 77 = .ok (.iaload, 1) := by decide +kernel
theorem dX0_passDusk_78 : decode cX0_passDusk 78 = .ok (.iastore, 1) := by decide +kernel
theorem dX0_passDusk_79 : decode cX0_passDusk 79 = .ok (.aload_n 0, 1) := by decide +kernel
theorem dX0_passDusk_80 : decode cX0_passDusk 80 = .ok (.getfield 18, 3) := by decide +kernel
theorem dX0_passDusk_83 : decode cX0_passDusk 83 = .ok (.iload_n 1, 1) := by decide +kernel
theorem dX0_passDusk_84 : decode cX0_passDusk 84 = .ok (.iconst 0, 1) := by decide +kernel
theorem dX0_passDusk_85 : decode cX0_passDusk 85 = .ok (.iastore, 1) := by decide +kernel
theorem dX0_passDusk_86 : decode cX0_passDusk 86 = .ok (.iinc 1 1, 3) := by decide +kernel
theorem dX0_passDusk_89 : decode cX0_passDusk 89 = .ok (.goto (-87), 3) := by decide +kernel
theorem dX0_passDusk_92 : decode cX0_passDusk 92 = .ok (.aload_n 0, 1) := by decide +kernel
theorem dX0_passDusk_93 : decode cX0_passDusk 93 = .ok (.iconst 0, 1) := by decide +kernel
theorem dX0_passDusk_94 : decode cX0_passDusk 94 = .ok (.putfield 47, 3) := by decide +kernel
theorem dX0_passDusk_97 : decode cX0_passDusk 97 = .ok (.aload_n 0, 1) := by decide +kernel
theorem dX0_passDusk_98 : decode cX0_passDusk 98 = .ok (.dup, 1) := by decide +kernel
theorem dX0_passDusk_99 : decode cX0_passDusk 99 = .ok (.getfield 31, 3) := by decide +kernel
theorem dX0_passDusk_102 : decode cX0_passDusk 102 = .ok (.iconst 1, 1) := by decide +kernel
theorem dX0_passDusk_103 : decode cX0_passDusk 103 = .ok (.iadd, 1) := by decide +kernel
theorem dX0_passDusk_104 : decode cX0_passDusk 104 = .ok (.putfield 31, 3) := by decide +kernel
theorem dX0_passDusk_107 : decode cX0_passDusk 107 = .ok (.return_, 1) := by decide +kernel
theorem dX0_undo_0 : decode cX0_undo 0 = .ok (.aload_n 0, 1) := by decide +kernel
theorem dX0_undo_1 : decode cX0_undo 1 = .ok (.dup, 1) := by decide +kernel
theorem dX0_undo_2 : decode cX0_undo 2 = .ok (.getfield 41, 3) := by decide +kernel
theorem dX0_undo_5 : decode cX0_undo 5 = .ok (.iconst 1, 1) := by decide +kernel
theorem dX0_undo_6 : decode cX0_undo 6 = .ok (.iload_n 1, 1) := by decide +kernel
theorem dX0_undo_7 : decode cX0_undo 7 = .ok (.ishl, 1) := by decide +kernel
theorem dX0_undo_8 : decode cX0_undo 8 = .ok (.iconst (-1), 1) := by decide +kernel
theorem dX0_undo_9 : decode cX0_undo 9 = .ok (.ixor, 1) := by decide +kernel
theorem dX0_undo_10 : decode cX0_undo 10 = .ok (.iand, 1) := by decide +kernel
theorem dX0_undo_11 : decode cX0_undo 11 = .ok (.putfield 41, 3) := by decide +kernel
theorem dX0_undo_14 : decode cX0_undo 14 = .ok (.aload_n 0, 1) := by decide +kernel
theorem dX0_undo_15 : decode cX0_undo 15 = .ok (.dup, 1) := by decide +kernel
theorem dX0_undo_16 : decode cX0_undo 16 = .ok (.getfield 44, 3) := by decide +kernel
theorem dX0_undo_19 : decode cX0_undo 19 = .ok (.iconst 1, 1) := by decide +kernel
theorem dX0_undo_20 : decode cX0_undo 20 = .ok (.iload_n 1, 1) := by decide +kernel
theorem dX0_undo_21 : decode cX0_undo 21 = .ok (.ishl, 1) := by decide +kernel
theorem dX0_undo_22 : decode cX0_undo 22 = .ok (.ior, 1) := by decide +kernel
theorem dX0_undo_23 : decode cX0_undo 23 = .ok (.putfield 44, 3) := by decide +kernel
theorem dX0_undo_26 : decode cX0_undo 26 = .ok (.aload_n 0, 1) := by decide +kernel
theorem dX0_undo_27 : decode cX0_undo 27 = .ok (.getfield 9, 3) := by decide +kernel
theorem dX0_undo_30 : decode cX0_undo 30 = .ok (.iload_n 1, 1) := by decide +kernel
theorem dX0_undo_31 : decode cX0_undo 31 = .ok (.aload_n 0, 1) := by decide +kernel
theorem dX0_undo_32 : decode cX0_undo 32 = .ok (.getfield 31, 3) := by decide +kernel
theorem dX0_undo_35 : decode cX0_undo 35 = .ok (.iastore, 1) := by decide +kernel
theorem dX0_undo_36 : decode cX0_undo 36 = .ok (.aload_n 0, 1) := by decide +kernel
theorem dX0_undo_37 : decode cX0_undo 37 = .ok (.dup, 1) := by decide +kernel
theorem dX0_undo_38 : decode cX0_undo 38 = .ok (.getfield 38, 3) := by decide +kernel
theorem dX0_undo_41 : decode cX0_undo 41 = .ok (.iconst 1, 1) := by decide +kernel
theorem dX0_undo_42 : decode cX0_undo 42 = .ok (.iadd, 1) := by decide +kernel
theorem dX0_undo_43 : decode cX0_undo 43 = .ok (.putfield 38, 3) := by decide +kernel
theorem dX0_undo_46 : decode cX0_undo 46 = .ok (.return_, 1) := by decide +kernel
theorem dX1_init_0 : decode cX1_init 0 = .ok (.aload_n 0, 1) := by decide +kernel
theorem dX1_init_1 : decode cX1_init 1 = .ok (.invokespecial 1, 3) := by decide +kernel
theorem dX1_init_4 : decode cX1_init 4 = .ok (.aload_n 0, 1) := by decide +kernel
theorem dX1_init_5 : decode cX1_init 5 = .ok (.new 7, 3) := by decide +kernel
theorem dX1_init_8 : decode cX1_init 8 = .ok (.dup, 1) := by decide +kernel
theorem dX1_init_9 : decode cX1_init 9 = .ok (.invokespecial 9, 3) := by decide +kernel
theorem dX1_init_12 : decode cX1_init 12 = .ok (.putfield 10, 3) := by decide +kernel
theorem dX1_init_15 : decode cX1_init 15 = .ok (.aload_n 0, 1) := by decide +kernel
theorem dX1_init_16 : decode cX1_init 16 = .ok (.new 16, 3) := by decide +kernel
theorem dX1_init_19 : decode cX1_init 19 = .ok (.dup, 1) := by decide +kernel
theorem dX1_init_20 : decode cX1_init 20 = .ok (.aload_n 1, 1) := by decide +kernel
theorem dX1_init_21 : decode cX1_init 21 = .ok (.invokespecial 18, 3) := by decide +kernel
theorem dX1_init_24 : decode cX1_init 24 = .ok (.putfield 21, 3) := by decide +kernel
theorem dX1_init_27 : decode cX1_init 27 = .ok (.return_, 1) := by decide +kernel
theorem dX2_init_0 : decode cX2_init 0 = .ok (.aload_n 0, 1) := by decide +kernel
theorem dX2_init_1 : decode cX2_init 1 = .ok (.invokespecial 3, 3) := by decide +kernel
theorem dX2_init_4 : decode cX2_init 4 = .ok (.aload_n 0, 1) := by decide +kernel
theorem dX2_init_5 : decode cX2_init 5 = .ok (.bipush 6, 2) := by decide +kernel
theorem dX2_init_7 : decode cX2_init 7 = .ok (.newarray .int, 2) := by decide +kernel
theorem dX2_init_9 : decode cX2_init 9 = .ok (.putfield 9, 3) := by decide +kernel
theorem dX2_init_12 : decode cX2_init 12 = .ok (.aload_n 0, 1) := by decide +kernel
theorem dX2_init_13 : decode cX2_init 13 = .ok (.bipush 6, 2) := by decide +kernel
theorem dX2_init_15 : decode cX2_init 15 = .ok (.newarray .int, 2) := by decide +kernel
theorem dX2_init_17 : decode cX2_init 17 = .ok (.putfield 15, 3) := by decide +kernel
theorem dX2_init_20 : decode cX2_init 20 = .ok (.aload_n 0, 1) := by decide +kernel
theorem dX2_init_21 : decode cX2_init 21 = .ok (.bipush 6, 2) := by decide +kernel
theorem dX2_init_23 : decode cX2_init 23 = .ok (.newarray .int, 2) := by decide +kernel
theorem dX2_init_25 : decode cX2_init 25 = .ok (.putfield 18, 3) := by decide +kernel
theorem dX2_init_28 : decode cX2_init 28 = .ok (.aload_n 0, 1) := by decide +kernel
theorem dX2_init_29 : decode cX2_init 29 = .ok (.aload_n 1, 1) := by decide +kernel
theorem dX2_init_30 : decode cX2_init 30 = .ok (.putfield 21, 3) := by decide +kernel
theorem dX2_init_33 : decode cX2_init 33 = .ok (.return_, 1) := by decide +kernel
theorem dX2_prepare_0 : decode cX2_prepare 0 = .ok (.iconst 0, 1) := by decide +kernel
theorem dX2_prepare_1 : decode cX2_prepare 1 = .ok (.istore_n 3, 1) := by decide +kernel
theorem dX2_prepare_2 : decode cX2_prepare 2 = .ok (.iload_n 3, 1) := by decide +kernel
theorem dX2_prepare_3 : decode cX2_prepare 3 = .ok (.aload_n 0, 1) := by decide +kernel
theorem dX2_prepare_4 : decode cX2_prepare 4 = .ok (.getfield 21, 3) := by decide +kernel
theorem dX2_prepare_7 : decode cX2_prepare 7 = .ok (.getfield 25, 3) := by decide +kernel
theorem dX2_prepare_10 : decode cX2_prepare 10 = .ok (.if_icmp .ge 49, 3) := by decide +kernel
theorem dX2_prepare_13 : decode cX2_prepare 13 = .ok (.iload_n 2, 1) := by decide +kernel
theorem dX2_prepare_14 : decode cX2_prepare 14 = .ok (.ifCond .eq 15, 3) := by decide +kernel
theorem dX2_prepare_17 : decode cX2_prepare 17 = .ok (.aload_n 0, 1) := by decide +kernel
theorem dX2_prepare_18 : decode cX2_prepare 18 = .ok (.getfield 21, 3) := by decide +kernel
theorem dX2_prepare_21 : decode cX2_prepare 21 = .ok (.getfield 31, 3) := by decide +kernel
theorem dX2_prepare_24 : decode cX2_prepare 24 = .ok (.iload_n 3, 1) := by decide +kernel
theorem dX2_prepare_25 : decode cX2_prepare 25 = .ok (.iaload, 1) := by decide +kernel
theorem dX2_prepare_26 : decode cX2_prepare 26 = .ok (.goto 4, 3) := by decide +kernel
theorem dX2_prepare_29 : decode cX2_prepare 29 = .ok (.iconst 1, 1) := by decide +kernel
theorem dX2_prepare_30 : decode cX2_prepare 30 = .ok (.istore 4, 2) := by decide +kernel
theorem dX2_prepare_32 : decode cX2_prepare 32 = .ok (.aload_n 0, 1) := by decide +kernel
theorem dX2_prepare_33 : decode cX2_prepare 33 = .ok (.getfield 9, 3) := by decide +kernel
theorem dX2_prepare_36 : decode cX2_prepare 36 = .ok (.iload_n 3, 1) := by decide +kernel
theorem dX2_prepare_37 : decode cX2_prepare 37 = .ok (.iload_n 1, 1) := by decide +kernel
theorem dX2_prepare_38 : decode cX2_prepare 38 = .ok (.iload_n 3, 1) := by decide +kernel
theorem dX2_prepare_39 : decode cX2_prepare 39 = .ok (.ishr, 1) := by decide +kernel
theorem dX2_prepare_40 : decode cX2_prepare 40 = .ok (.iconst 1, 1) := by decide +kernel
theorem dX2_prepare_41 : decode cX2_prepare 41 = .ok (.iand, 1) := by decide +kernel
theorem dX2_prepare_42 : decode cX2_prepare 42 = .ok (.ifCond .eq 8, 3) := by decide +kernel
theorem dX2_prepare_45 : decode cX2_prepare 45 = .ok (.ldc 34, 2) := by decide +kernel
theorem dX2_prepare_47 : decode cX2_prepare 47 = .ok (.goto 5, 3) := by decide +kernel
theorem dX2_prepare_50 : decode cX2_prepare 50 = .ok (.iload 4, 2) := by decide +kernel
theorem dX2_prepare_52 : decode cX2_prepare 52 = .ok (.iastore, 1) := by decide +kernel
theorem dX2_prepare_53 : decode cX2_prepare 53 = .ok (.iinc 3 1, 3) := by decide +kernel
theorem dX2_prepare_56 : decode cX2_prepare 56 = .ok (.goto (-54), 3) := by decide +kernel
theorem dX2_prepare_59 : decode cX2_prepare 59 = .ok (.return_, 1) := by decide +kernel
theorem dX2_leastSum_0 : decode cX2_leastSum 0 = .ok (.aload_n 0, 1) := by decide +kernel
theorem dX2_leastSum_1 : decode cX2_leastSum 1 = .ok (.iload_n 2, 1) := by decide +kernel
theorem dX2_leastSum_2 : decode cX2_leastSum 2 = .ok (.iconst 1, 1) := by decide +kernel
theorem dX2_leastSum_3 : decode cX2_leastSum 3 = .ok (.isub, 1) := by decide +kernel
theorem dX2_leastSum_4 : decode cX2_leastSum 4 = .ok (.invokevirtual 35, 3) := by decide +kernel
theorem dX2_leastSum_7 : decode cX2_leastSum 7 = .ok (.ldc 34, 2) := by decide +kernel
theorem dX2_leastSum_9 : decode cX2_leastSum 9 = .ok (.istore_n 3, 1) := by decide +kernel
theorem dX2_leastSum_10 : decode cX2_leastSum 10 = .ok (.aload_n 0, 1) := by decide +kernel
theorem dX2_leastSum_11 : decode cX2_leastSum 11 = .ok (.getfield 21, 3) := by decide +kernel
theorem dX2_leastSum_14 : decode cX2_leastSum 14 = .ok (.getfield 39, 3) := by decide +kernel
theorem dX2_leastSum_17 : decode cX2_leastSum 17 = .ok (.iconst 1, 1) := by decide +kernel
theorem dX2_leastSum_18 : decode cX2_leastSum 18 = .ok (.isub, 1) := by decide +kernel
theorem dX2_leastSum_19 : decode cX2_leastSum 19 = .ok (.istore 4, 2) := by decide +kernel
theorem dX2_leastSum_21 : decode cX2_leastSum 21 = .ok (.iload 4, 2) := by decide +kernel
theorem dX2_leastSum_23 : decode cX2_leastSum 23 = .ok (.ifCond .lt 105, 3) := by decide +kernel
theorem dX2_leastSum_26 : decode cX2_leastSum 26 = .ok (.aload_n 0, 1) := by decide +kernel
theorem dX2_leastSum_27 : decode cX2_leastSum 27 = .ok (.aload_n 0, 1) := by decide +kernel
theorem dX2_leastSum_28 : decode cX2_leastSum 28 = .ok (.getfield 21, 3) := by decide +kernel
theorem dX2_leastSum_31 : decode cX2_leastSum 31 = .ok (.getfield 42, 3) := by decide +kernel
theorem dX2_leastSum_34 : decode cX2_leastSum 34 = .ok (.iload 4, 2) := by decide +kernel
theorem dX2_leastSum_36 : decode cX2_leastSum 36 = .ok (.iaload, 1) := by decide +kernel
theorem dX2_leastSum_37 : decode cX2_leastSum 37 = .ok (.invokevirtual 45, 3) := by decide +kernel
theorem dX2_leastSum_40 : decode cX2_leastSum 40 = .ok (.istore 5, 2) := by decide +kernel
theorem dX2_leastSum_42 : decode cX2_leastSum 42 = .ok (.iconst 0, 1) := by decide +kernel
theorem dX2_leastSum_43 : decode cX2_leastSum 43 = .ok (.istore 6, 2) := by decide +kernel
theorem dX2_leastSum_45 : decode cX2_leastSum 45 = .ok (.iload 6, 2) := by decide +kernel
theorem dX2_leastSum_47 : decode cX2_leastSum 47 = .ok (.iconst 1, 1) := by decide +kernel
theorem dX2_leastSum_48 : decode cX2_leastSum 48 = .ok (.if_icmp .gt 74, 3) := by decide +kernel
theorem dX2_leastSum_51 : decode cX2_leastSum 51 = .ok (.aload_n 0, 1) := by decide +kernel
theorem dX2_leastSum_52 : decode cX2_leastSum 52 = .ok (.getfield 21, 3) := by decide +kernel
theorem dX2_leastSum_55 : decode cX2_leastSum 55 = .ok (.aload_n 0, 1) := by decide +kernel
theorem dX2_leastSum_56 : decode cX2_leastSum 56 = .ok (.getfield 21, 3) := by decide +kernel
theorem dX2_leastSum_59 : decode cX2_leastSum 59 = .ok (.getfield 42, 3) := by decide +kernel
theorem dX2_leastSum_62 : decode cX2_leastSum 62 = .ok (.iload 4, 2) := by decide +kernel
theorem dX2_leastSum_64 : decode cX2_leastSum 64 = .ok (.iaload, 1) := by decide +kernel
theorem dX2_leastSum_65 : decode cX2_leastSum 65 = .ok (.iload 6, 2) := by decide +kernel
theorem dX2_leastSum_67 : decode cX2_leastSum 67 = .ok (.invokevirtual 49, 3) := by decide +kernel
theorem dX2_leastSum_70 : decode cX2_leastSum 70 = .ok (.istore 7, 2) := by decide +kernel
theorem dX2_leastSum_72 : decode cX2_leastSum 72 = .ok (.aload_n 0, 1) := by decide +kernel
theorem dX2_leastSum_73 : decode cX2_leastSum 73 = .ok (.getfield 9, 3) := by decide +kernel
theorem dX2_leastSum_76 : decode cX2_leastSum 76 = .ok (.iload 7, 2) := by decide +kernel
theorem dX2_leastSum_78 : decode cX2_leastSum 78 = .ok (.iaload, 1) := by decide +kernel
theorem dX2_leastSum_79 : decode cX2_leastSum 79 = .ok (.iload 5, 2) := by decide +kernel
theorem dX2_leastSum_81 : decode cX2_leastSum 81 = .ok (.iadd, 1) := by decide +kernel
theorem dX2_leastSum_82 : decode cX2_leastSum 82 = .ok (.istore 8, 2) := by decide +kernel
theorem dX2_leastSum_84 : decode cX2_leastSum 84 = .ok (.iload_n 1, 1) := by decide +kernel
theorem dX2_leastSum_85 : decode cX2_leastSum 85 = .ok (.iload 7, 2) := by decide +kernel
theorem dX2_leastSum_87 : decode cX2_leastSum 87 = .ok (.ishr, 1) := by decide +kernel
theorem dX2_leastSum_88 : decode cX2_leastSum 88 = .ok (.iconst 1, 1) := by decide +kernel
theorem dX2_leastSum_89 : decode cX2_leastSum 89 = .ok (.iand, 1) := by decide +kernel
theorem dX2_leastSum_90 : decode cX2_leastSum 90 = .ok (.ifCond .eq 26, 3) := by decide +kernel
theorem dX2_leastSum_93 : decode cX2_leastSum 93 = .ok (.iload 8, 2) := by decide +kernel
theorem dX2_leastSum_95 : decode cX2_leastSum 95 = .ok (.iload_n 3, 1) := by decide +kernel
theorem dX2_leastSum_96 : decode cX2_leastSum 96 = .ok (.if_icmp .ge 20, 3) := by decide +kernel
theorem dX2_leastSum_99 : decode cX2_leastSum 99 = .ok (.iload 8, 2) := by decide +kernel
theorem dX2_leastSum_101 : decode cX2_leastSum 101 = .ok (.istore_n 3, 1) := by decide +kernel
theorem dX2_leastSum_102 : decode cX2_leastSum 102 = .ok (.aload_n 0, 1) := by decide +kernel
theorem dX2_leastSum_103 : decode cX2_leastSum 103 = .ok (.iload 4, 2) := by decide +kernel
theorem dX2_leastSum_105 : decode cX2_leastSum 105 = .ok (.putfield 53, 3) := by decide +kernel
theorem dX2_leastSum_108 : decode cX2_leastSum 108 = .ok (.aload_n 0, 1) := by decide +kernel
theorem dX2_leastSum_109 : decode cX2_leastSum 109 = .ok (.iload 6, 2) := by decide +kernel
theorem dX2_leastSum_111 : decode cX2_leastSum 111 = .ok (.iconst 1, 1) := by decide +kernel
theorem dX2_leastSum_112 : decode cX2_leastSum 112 = .ok (.iadd, 1) := by decide +kernel
theorem dX2_leastSum_113 : decode cX2_leastSum 113 = .ok (.putfield 56, 3) := by decide +kernel
theorem dX2_leastSum_116 : decode cX2_leastSum 116 = .ok (.iinc 6 1, 3) := by decide +kernel
theorem dX2_leastSum_119 : decode cX2_leastSum 119 = .ok (.goto (-74), 3) := by decide +kernel
theorem dX2_leastSum_122 : decode cX2_leastSum 122 = .ok (.iinc 4 (-1), 3) := by decide +kernel
theorem dX2_leastSum_125 : decode cX2_leastSum 125 = .ok (.goto (-104), 3) := by decide +kernel
theorem dX2_leastSum_128 : decode cX2_leastSum 128 = .ok (.iload_n 3, 1) := by decide +kernel
theorem dX2_leastSum_129 : decode cX2_leastSum 129 = .ok (.ldc 34, 2) := by decide +kernel
theorem dX2_leastSum_131 : decode cX2_leastSum 131 = .ok (.if_icmp .ge 7, 3) := by decide +kernel
theorem dX2_leastSum_134 : decode cX2_leastSum 134 = .ok (.iload_n 3, 1) := by decide +kernel
theorem dX2_leastSum_135 : decode cX2_leastSum 135 = .ok (.goto 4, 3) := by decide +kernel
theorem dX2_leastSum_138 : decode cX2_leastSum 138 = .ok (.iconst (-1), 1) := by decide +kernel
theorem dX2_leastSum_139 : decode cX2_leastSum 139 = .ok (.ireturn, 1) := by decide +kernel
theorem dX2_writeRow_0 : decode cX2_writeRow 0 = .ok (.iconst 0, 1) := by decide +kernel
theorem dX2_writeRow_1 : decode cX2_writeRow 1 = .ok (.istore_n 2, 1) := by decide +kernel
theorem dX2_writeRow_2 : decode cX2_writeRow 2 = .ok (.iload_n 2, 1) := by decide +kernel
theorem dX2_writeRow_3 : decode cX2_writeRow 3 = .ok (.aload_n 0, 1) := by decide +kernel
theorem dX2_writeRow_4 : decode cX2_writeRow 4 = .ok (.getfield 21, 3) := by decide +kernel
theorem dX2_writeRow_7 : decode cX2_writeRow 7 = .ok (.getfield 39, 3) := by decide +kernel
theorem dX2_writeRow_10 : decode cX2_writeRow 10 = .ok (.if_icmp .ge 36, 3) := by decide +kernel
theorem dX2_writeRow_13 : decode cX2_writeRow 13 = .ok (.aload_n 1, 1) := by decide +kernel
theorem dX2_writeRow_14 : decode cX2_writeRow 14 = .ok (.aload_n 0, 1) := by decide +kernel
theorem dX2_writeRow_15 : decode cX2_writeRow 15 = .ok (.getfield 21, 3) := by decide +kernel
theorem dX2_writeRow_18 : decode cX2_writeRow 18 = .ok (.getfield 42, 3) := by decide +kernel
theorem dX2_writeRow_21 : decode cX2_writeRow 21 = .ok (.iload_n 2, 1) := by decide +kernel
theorem dX2_writeRow_22 : decode cX2_writeRow 22 = .ok (.iaload, 1) := by decide +kernel
theorem dX2_writeRow_23 : decode cX2_writeRow 23 = .ok (.iload_n 2, 1) := by decide +kernel
theorem dX2_writeRow_24 : decode cX2_writeRow 24 = .ok (.aload_n 0, 1) := by decide +kernel
theorem dX2_writeRow_25 : decode cX2_writeRow 25 = .ok (.getfield 53, 3) := by decide +kernel
theorem dX2_writeRow_28 : decode cX2_writeRow 28 = .ok (.if_icmp .ne 10, 3) := by decide +kernel
theorem dX2_writeRow_31 : decode cX2_writeRow 31 = .ok (.aload_n 0, 1) := by decide +kernel
theorem dX2_writeRow_32 : decode cX2_writeRow 32 = .ok (.getfield 56, 3) := by decide +kernel
theorem dX2_writeRow_35 : decode cX2_writeRow 35 = .ok (.goto 4, 3) := by decide +kernel
theorem dX2_writeRow_38 : decode cX2_writeRow 38 = .ok (.iconst 0, 1) := by decide +kernel
theorem dX2_writeRow_39 : decode cX2_writeRow 39 = .ok (.iastore, 1) := by decide +kernel
theorem dX2_writeRow_40 : decode cX2_writeRow 40 = .ok (.iinc 2 1, 3) := by decide +kernel
theorem dX2_writeRow_43 : decode cX2_writeRow 43 = .ok (.goto (-41), 3) := by decide +kernel
theorem dX2_writeRow_46 : decode cX2_writeRow 46 = .ok (.return_, 1) := by decide +kernel
theorem dX2_sumDays_0 : decode cX2_sumDays 0 = .ok (.aload_n 0, 1) := by decide +kernel
theorem dX2_sumDays_1 : decode cX2_sumDays 1 = .ok (.getfield 15, 3) := by decide +kernel
theorem dX2_sumDays_4 : decode cX2_sumDays 4 = .ok (.iconst 0, 1) := by decide +kernel
theorem dX2_sumDays_5 : decode cX2_sumDays 5 = .ok (.invokestatic 59, 3) := by decide +kernel
theorem dX2_sumDays_8 : decode cX2_sumDays 8 = .ok (.iconst 0, 1) := by decide +kernel
theorem dX2_sumDays_9 : decode cX2_sumDays 9 = .ok (.istore_n 2, 1) := by decide +kernel
theorem dX2_sumDays_10 : decode cX2_sumDays 10 = .ok (.iload_n 2, 1) := by decide +kernel
theorem dX2_sumDays_11 : decode cX2_sumDays 11 = .ok (.iload_n 1, 1) := by decide +kernel
theorem dX2_sumDays_12 : decode cX2_sumDays 12 = .ok (.if_icmp .ge 13, 3) := by decide +kernel
theorem dX2_sumDays_15 : decode cX2_sumDays 15 = .ok (.aload_n 0, 1) := by decide +kernel
theorem dX2_sumDays_16 : decode cX2_sumDays 16 = .ok (.invokevirtual 65, 3) := by decide +kernel
theorem dX2_sumDays_19 : decode cX2_sumDays 19 = .ok (.iinc 2 1, 3) := by decide +kernel
theorem dX2_sumDays_22 : decode cX2_sumDays 22 = .ok (.goto (-12), 3) := by decide +kernel
theorem dX2_sumDays_25 : decode cX2_sumDays 25 = .ok (.return_, 1) := by decide +kernel
theorem dX2_addDay_0 : decode cX2_addDay 0 = .ok (.aload_n 0, 1) := by decide +kernel
theorem dX2_addDay_1 : decode cX2_addDay 1 = .ok (.getfield 18, 3) := by decide +kernel
theorem dX2_addDay_4 : decode cX2_addDay 4 = .ok (.ldc 34, 2) := by decide +kernel
theorem dX2_addDay_6 : decode cX2_addDay 6 = .ok (.invokestatic 59, 3) := by decide +kernel
theorem dX2_addDay_9 : decode cX2_addDay 9 = .ok (.iconst 0, 1) := by decide +kernel
theorem dX2_addDay_10 : decode cX2_addDay 10 = .ok (.istore_n 1, 1) := by decide +kernel
theorem dX2_addDay_11 : decode cX2_addDay 11 = .ok (.iload_n 1, 1) := by decide +kernel
theorem dX2_addDay_12 : decode cX2_addDay 12 = .ok (.aload_n 0, 1) := by decide +kernel
theorem dX2_addDay_13 : decode cX2_addDay 13 = .ok (.getfield 21, 3) := by decide +kernel
theorem dX2_addDay_16 : decode cX2_addDay 16 = .ok (.getfield 39, 3) := by decide +kernel
theorem dX2_addDay_19 : decode cX2_addDay 19 = .ok (.if_icmp .ge 65, 3) := by decide +kernel
theorem dX2_addDay_22 : decode cX2_addDay 22 = .ok (.aload_n 0, 1) := by decide +kernel
theorem dX2_addDay_23 : decode cX2_addDay 23 = .ok (.iload_n 1, 1) := by decide +kernel
theorem dX2_addDay_24 : decode cX2_addDay 24 = .ok (.invokevirtual 45, 3) := by decide +kernel
theorem dX2_addDay_27 : decode cX2_addDay 27 = .ok (.istore_n 2, 1) := by decide +kernel
theorem dX2_addDay_28 : decode cX2_addDay 28 = .ok (.iconst 0, 1) := by decide +kernel
theorem dX2_addDay_29 : decode cX2_addDay 29 = .ok (.istore_n 3, 1) := by decide +kernel
theorem dX2_addDay_30 : decode cX2_addDay 30 = .ok (.iload_n 3, 1) := by decide +kernel
theorem dX2_addDay_31 : decode cX2_addDay 31 = .ok (.iconst 1, 1) := by decide +kernel
theorem dX2_addDay_32 : decode cX2_addDay 32 = .ok (.if_icmp .gt 46, 3) := by decide +kernel
theorem dX2_addDay_35 : decode cX2_addDay 35 = .ok (.aload_n 0, 1) := by decide +kernel
theorem dX2_addDay_36 : decode cX2_addDay 36 = .ok (.getfield 21, 3) := by decide +kernel
theorem dX2_addDay_39 : decode cX2_addDay 39 = .ok (.iload_n 1, 1) := by decide +kernel
theorem dX2_addDay_40 : decode cX2_addDay 40 = .ok (.iload_n 3, 1) := by decide +kernel
theorem dX2_addDay_41 : decode cX2_addDay 41 = .ok (.invokevirtual 49, 3) := by decide +kernel
theorem dX2_addDay_44 : decode cX2_addDay 44 = .ok (.istore 4, 2) := by decide +kernel
theorem dX2_addDay_46 : decode cX2_addDay 46 = .ok (.aload_n 0, 1) := by decide +kernel
theorem dX2_addDay_47 : decode cX2_addDay 47 = .ok (.getfield 18, 3) := by decide +kernel
theorem dX2_addDay_50 : decode cX2_addDay 50 = .ok (.iload 4, 2) := by decide +kernel
theorem dX2_addDay_52 : decode cX2_addDay 52 = .ok (.aload_n 0, 1) := by decide +kernel
theorem dX2_addDay_53 : decode cX2_addDay 53 = .ok (.getfield 18, 3) := by decide +kernel
theorem dX2_addDay_56 : decode cX2_addDay 56 = .ok (.iload 4, 2) := by decide +kernel
theorem dX2_addDay_58 : decode cX2_addDay 58 = .ok (.iaload, 1) := by decide +kernel
theorem dX2_addDay_59 : decode cX2_addDay 59 = .ok (.aload_n 0, 1) := by decide +kernel
theorem dX2_addDay_60 : decode cX2_addDay 60 = .ok (.getfield 9, 3) := by decide +kernel
theorem dX2_addDay_63 : decode cX2_addDay 63 = .ok (.iload 4, 2) := by decide +kernel
theorem dX2_addDay_65 : decode cX2_addDay 65 = .ok (.iaload, 1) := by decide +kernel
theorem dX2_addDay_66 : decode cX2_addDay 66 = .ok (.iload_n 2, 1) := by decide +kernel
theorem dX2_addDay_67 : decode cX2_addDay 67 = .ok (.iadd, 1) := by decide +kernel
theorem dX2_addDay_68 : decode cX2_addDay 68 = .ok (.invokestatic 68, 3) := by decide +kernel
theorem dX2_addDay_71 : decode cX2_addDay 71 = .ok (.iastore, 1) := by decide +kernel
theorem dX2_addDay_72 : decode cX2_addDay 72 = .ok (.iinc 3 1, 3) := by decide +kernel
theorem dX2_addDay_75 : decode cX2_addDay 75 = .ok (.goto (-45), 3) := by decide +kernel
theorem dX2_addDay_78 : decode cX2_addDay 78 = .ok (.iinc 1 1, 3) := by decide +kernel
theorem dX2_addDay_81 : decode cX2_addDay 81 = .ok (.goto (-70), 3) := by decide +kernel
theorem dX2_addDay_84 : decode cX2_addDay 84 = .ok (.aload_n 0, 1) := by decide +kernel
theorem dX2_addDay_85 : decode cX2_addDay 85 = .ok (.getfield 18, 3) := by decide +kernel
theorem dX2_addDay_88 : decode cX2_addDay 88 = .ok (.iconst 0, 1) := by decide +kernel
theorem dX2_addDay_89 : decode cX2_addDay 89 = .ok (.aload_n 0, 1) := by decide +kernel
theorem dX2_addDay_90 : decode cX2_addDay 90 = .ok (.getfield 15, 3) := by decide +kernel
theorem dX2_addDay_93 : decode cX2_addDay 93 = .ok (.iconst 0, 1) := by decide +kernel
theorem dX2_addDay_94 : decode cX2_addDay 94 = .ok (.bipush 6, 2) := by decide +kernel
theorem dX2_addDay_96 : decode cX2_addDay 96 = .ok (.invokestatic 73, 3) := by decide +kernel
theorem dX2_addDay_99 : decode cX2_addDay 99 = .ok (.return_, 1) := by decide +kernel
theorem dX2_sumBehind_0 : decode cX2_sumBehind 0 = .ok (.aload_n 0, 1) := by decide +kernel
theorem dX2_sumBehind_1 : decode cX2_sumBehind 1 = .ok (.getfield 15, 3) := by decide +kernel
theorem dX2_sumBehind_4 : decode cX2_sumBehind 4 = .ok (.aload_n 0, 1) := by decide +kernel
theorem dX2_sumBehind_5 : decode cX2_sumBehind 5 = .ok (.getfield 21, 3) := by decide +kernel
theorem dX2_sumBehind_8 : decode cX2_sumBehind 8 = .ok (.getfield 79, 3) := by decide +kernel
theorem dX2_sumBehind_11 : decode cX2_sumBehind 11 = .ok (.iload_n 1, 1) := by decide +kernel
theorem dX2_sumBehind_12 : decode cX2_sumBehind 12 = .ok (.iaload, 1) := by decide +kernel
theorem dX2_sumBehind_13 : decode cX2_sumBehind 13 = .ok (.iaload, 1) := by decide +kernel
theorem dX2_sumBehind_14 : decode cX2_sumBehind 14 = .ok (.aload_n 0, 1) := by decide +kernel
theorem dX2_sumBehind_15 : decode cX2_sumBehind 15 = .ok (.getfield 15, 3) := by decide +kernel
theorem dX2_sumBehind_18 : decode cX2_sumBehind 18 = .ok (.aload_n 0, 1) := by decide +kernel
theorem dX2_sumBehind_19 : decode cX2_sumBehind 19 = .ok (.getfield 21, 3) := by decide +kernel
theorem dX2_sumBehind_22 : decode cX2_sumBehind 22 = .ok (.getfield 82, 3) := by decide +kernel
theorem dX2_sumBehind_25 : decode cX2_sumBehind 25 = .ok (.iload_n 1, 1) := by decide +kernel
theorem dX2_sumBehind_26 : decode cX2_sumBehind 26 = .ok (.iaload, 1) := by decide +kernel
theorem dX2_sumBehind_27 : decode cX2_sumBehind 27 = .ok (.iaload, 1) := by decide +kernel
theorem dX2_sumBehind_28 : decode cX2_sumBehind 28 = .ok (.invokestatic 68, 3) := by decide +kernel
theorem dX2_sumBehind_31 : decode cX2_sumBehind 31 = .ok (.ireturn, 1) := by decide +kernel
theorem dX3_init_0 : decode cX3_init 0 = .ok (.aload_n 0, 1) := by decide +kernel
theorem dX3_init_1 : decode cX3_init 1 = .ok (.invokespecial 3, 3) := by decide +kernel
theorem dX3_init_4 : decode cX3_init 4 = .ok (.aload_n 0, 1) := by decide +kernel
theorem dX3_init_5 : decode cX3_init 5 = .ok (.bipush 6, 2) := by decide +kernel
theorem dX3_init_7 : decode cX3_init 7 = .ok (.newarray .int, 2) := by decide +kernel
theorem dX3_init_9 : decode cX3_init 9 = .ok (.putfield 9, 3) := by decide +kernel
theorem dX3_init_12 : decode cX3_init 12 = .ok (.aload_n 0, 1) := by decide +kernel
theorem dX3_init_13 : decode cX3_init 13 = .ok (.bipush 12, 2) := by decide +kernel
theorem dX3_init_15 : decode cX3_init 15 = .ok (.newarray .int, 2) := by decide +kernel
theorem dX3_init_17 : decode cX3_init 17 = .ok (.putfield 15, 3) := by decide +kernel
theorem dX3_init_20 : decode cX3_init 20 = .ok (.aload_n 0, 1) := by decide +kernel
theorem dX3_init_21 : decode cX3_init 21 = .ok (.bipush 12, 2) := by decide +kernel
theorem dX3_init_23 : decode cX3_init 23 = .ok (.newarray .int, 2) := by decide +kernel
theorem dX3_init_25 : decode cX3_init 25 = .ok (.putfield 18, 3) := by decide +kernel
theorem dX3_init_28 : decode cX3_init 28 = .ok (.aload_n 0, 1) := by decide +kernel
theorem dX3_init_29 : decode cX3_init 29 = .ok (.bipush 12, 2) := by decide +kernel
theorem dX3_init_31 : decode cX3_init 31 = .ok (.newarray .int, 2) := by decide +kernel
theorem dX3_init_33 : decode cX3_init 33 = .ok (.putfield 21, 3) := by decide +kernel
theorem dX3_init_36 : decode cX3_init 36 = .ok (.aload_n 0, 1) := by decide +kernel
theorem dX3_init_37 : decode cX3_init 37 = .ok (.bipush 12, 2) := by decide +kernel
theorem dX3_init_39 : decode cX3_init 39 = .ok (.newarray .int, 2) := by decide +kernel
theorem dX3_init_41 : decode cX3_init 41 = .ok (.putfield 24, 3) := by decide +kernel
theorem dX3_init_44 : decode cX3_init 44 = .ok (.aload_n 0, 1) := by decide +kernel
theorem dX3_init_45 : decode cX3_init 45 = .ok (.bipush 12, 2) := by decide +kernel
theorem dX3_init_47 : decode cX3_init 47 = .ok (.newarray .int, 2) := by decide +kernel
theorem dX3_init_49 : decode cX3_init 49 = .ok (.putfield 27, 3) := by decide +kernel
theorem dX3_init_52 : decode cX3_init 52 = .ok (.aload_n 0, 1) := by decide +kernel
theorem dX3_init_53 : decode cX3_init 53 = .ok (.bipush 12, 2) := by decide +kernel
theorem dX3_init_55 : decode cX3_init 55 = .ok (.newarray .int, 2) := by decide +kernel
theorem dX3_init_57 : decode cX3_init 57 = .ok (.putfield 30, 3) := by decide +kernel
theorem dX3_init_60 : decode cX3_init 60 = .ok (.aload_n 0, 1) := by decide +kernel
theorem dX3_init_61 : decode cX3_init 61 = .ok (.bipush 12, 2) := by decide +kernel
theorem dX3_init_63 : decode cX3_init 63 = .ok (.newarray .int, 2) := by decide +kernel
theorem dX3_init_65 : decode cX3_init 65 = .ok (.putfield 33, 3) := by decide +kernel
theorem dX3_init_68 : decode cX3_init 68 = .ok (.aload_n 0, 1) := by decide +kernel
theorem dX3_init_69 : decode cX3_init 69 = .ok (.bipush 12, 2) := by decide +kernel
theorem dX3_init_71 : decode cX3_init 71 = .ok (.newarray .int, 2) := by decide +kernel
theorem dX3_init_73 : decode cX3_init 73 = .ok (.putfield 36, 3) := by decide +kernel
theorem dX3_init_76 : decode cX3_init 76 = .ok (.aload_n 0, 1) := by decide +kernel
theorem dX3_init_77 : decode cX3_init 77 = .ok (.bipush 12, 2) := by decide +kernel
theorem dX3_init_79 : decode cX3_init 79 = .ok (.newarray .int, 2) := by decide +kernel
theorem dX3_init_81 : decode cX3_init 81 = .ok (.putfield 39, 3) := by decide +kernel
theorem dX3_init_84 : decode cX3_init 84 = .ok (.aload_n 0, 1) := by decide +kernel
theorem dX3_init_85 : decode cX3_init 85 = .ok (.bipush 13, 2) := by decide +kernel
theorem dX3_init_87 : decode cX3_init 87 = .ok (.newarray .int, 2) := by decide +kernel
theorem dX3_init_89 : decode cX3_init 89 = .ok (.putfield 42, 3) := by decide +kernel
theorem dX3_init_92 : decode cX3_init 92 = .ok (.aload_n 0, 1) := by decide +kernel
theorem dX3_init_93 : decode cX3_init 93 = .ok (.iconst 2, 1) := by decide +kernel
theorem dX3_init_94 : decode cX3_init 94 = .ok (.putfield 45, 3) := by decide +kernel
theorem dX3_init_97 : decode cX3_init 97 = .ok (.aload_n 0, 1) := by decide +kernel
theorem dX3_init_98 : decode cX3_init 98 = .ok (.getfield 9, 3) := by decide +kernel
theorem dX3_init_101 : decode cX3_init 101 = .ok (.iconst 1, 1) := by decide +kernel
theorem dX3_init_102 : decode cX3_init 102 = .ok (.invokestatic 49, 3) := by decide +kernel
theorem dX3_init_105 : decode cX3_init 105 = .ok (.return_, 1) := by decide +kernel
theorem dX3_clear_0 : decode cX3_clear 0 = .ok (.aload_n 0, 1) := by decide +kernel
theorem dX3_clear_1 : decode cX3_clear 1 = .ok (.iconst 2, 1) := by decide +kernel
theorem dX3_clear_2 : decode cX3_clear 2 = .ok (.putfield 45, 3) := by decide +kernel
theorem dX3_clear_5 : decode cX3_clear 5 = .ok (.aload_n 0, 1) := by decide +kernel
theorem dX3_clear_6 : decode cX3_clear 6 = .ok (.getfield 9, 3) := by decide +kernel
theorem dX3_clear_9 : decode cX3_clear 9 = .ok (.iconst 1, 1) := by decide +kernel
theorem dX3_clear_10 : decode cX3_clear 10 = .ok (.invokestatic 49, 3) := by decide +kernel
theorem dX3_clear_13 : decode cX3_clear 13 = .ok (.aload_n 0, 1) := by decide +kernel
theorem dX3_clear_14 : decode cX3_clear 14 = .ok (.iconst 0, 1) := by decide +kernel
theorem dX3_clear_15 : decode cX3_clear 15 = .ok (.putfield 55, 3) := by decide +kernel
theorem dX3_clear_18 : decode cX3_clear 18 = .ok (.aload_n 0, 1) := by decide +kernel
theorem dX3_clear_19 : decode cX3_clear 19 = .ok (.iconst 0, 1) := by decide +kernel
theorem dX3_clear_20 : decode cX3_clear 20 = .ok (.putfield 58, 3) := by decide +kernel
theorem dX3_clear_23 : decode cX3_clear 23 = .ok (.return_, 1) := by decide +kernel
theorem dX3_copyFrom_0 : decode cX3_copyFrom 0 = .ok (.aload_n 0, 1) := by decide +kernel
theorem dX3_copyFrom_1 : decode cX3_copyFrom 1 = .ok (.aload_n 1, 1) := by decide +kernel
theorem dX3_copyFrom_2 : decode cX3_copyFrom 2 = .ok (.getfield 45, 3) := by decide +kernel
theorem dX3_copyFrom_5 : decode cX3_copyFrom 5 = .ok (.putfield 45, 3) := by decide +kernel
theorem dX3_copyFrom_8 : decode cX3_copyFrom 8 = .ok (.aload_n 1, 1) := by decide +kernel
theorem dX3_copyFrom_9 : decode cX3_copyFrom 9 = .ok (.getfield 9, 3) := by decide +kernel
theorem dX3_copyFrom_12 : decode cX3_copyFrom 12 = .ok (.iconst 0, 1) := by decide +kernel
theorem dX3_copyFrom_13 : decode cX3_copyFrom 13 = .ok (.aload_n 0, 1) := by decide +kernel
theorem dX3_copyFrom_14 : decode cX3_copyFrom 14 = .ok (.getfield 9, 3) := by decide +kernel
theorem dX3_copyFrom_17 : decode cX3_copyFrom 17 = .ok (.iconst 0, 1) := by decide +kernel
theorem dX3_copyFrom_18 : decode cX3_copyFrom 18 = .ok (.bipush 6, 2) := by decide +kernel
theorem dX3_copyFrom_20 : decode cX3_copyFrom 20 = .ok (.invokestatic 61, 3) := by decide +kernel
theorem dX3_copyFrom_23 : decode cX3_copyFrom 23 = .ok (.aload_n 0, 1) := by decide +kernel
theorem dX3_copyFrom_24 : decode cX3_copyFrom 24 = .ok (.aload_n 1, 1) := by decide +kernel
theorem dX3_copyFrom_25 : decode cX3_copyFrom 25 = .ok (.getfield 55, 3) := by decide +kernel
theorem dX3_copyFrom_28 : decode cX3_copyFrom 28 = .ok (.putfield 55, 3) := by decide +kernel
theorem dX3_copyFrom_31 : decode cX3_copyFrom 31 = .ok (.aload_n 1, 1) := by decide +kernel
theorem dX3_copyFrom_32 : decode cX3_copyFrom 32 = .ok (.getfield 15, 3) := by decide +kernel
theorem dX3_copyFrom_35 : decode cX3_copyFrom 35 = .ok (.iconst 0, 1) := by decide +kernel
theorem dX3_copyFrom_36 : decode cX3_copyFrom 36 = .ok (.aload_n 0, 1) := by decide +kernel
theorem dX3_copyFrom_37 : decode cX3_copyFrom 37 = .ok (.getfield 15, 3) := by decide +kernel
theorem dX3_copyFrom_40 : decode cX3_copyFrom 40 = .ok (.iconst 0, 1) := by decide +kernel
theorem dX3_copyFrom_41 : decode cX3_copyFrom 41 = .ok (.bipush 12, 2) := by decide +kernel
theorem dX3_copyFrom_43 : decode cX3_copyFrom 43 = .ok (.invokestatic 61, 3) := by decide +kernel
theorem dX3_copyFrom_46 : decode cX3_copyFrom 46 = .ok (.aload_n 1, 1) := by decide +kernel
theorem dX3_copyFrom_47 : decode cX3_copyFrom 47 = .ok (.getfield 18, 3) := by decide +kernel
theorem dX3_copyFrom_50 : decode cX3_copyFrom 50 = .ok (.iconst 0, 1) := by decide +kernel
theorem dX3_copyFrom_51 : decode cX3_copyFrom 51 = .ok (.aload_n 0, 1) := by decide +kernel
theorem dX3_copyFrom_52 : decode cX3_copyFrom 52 = .ok (.getfield 18, 3) := by decide +kernel
theorem dX3_copyFrom_55 : decode cX3_copyFrom 55 = .ok (.iconst 0, 1) := by decide +kernel
theorem dX3_copyFrom_56 : decode cX3_copyFrom 56 = .ok (.bipush 12, 2) := by decide +kernel
theorem dX3_copyFrom_58 : decode cX3_copyFrom 58 = .ok (.invokestatic 61, 3) := by decide +kernel
theorem dX3_copyFrom_61 : decode cX3_copyFrom 61 = .ok (.aload_n 1, 1) := by decide +kernel
theorem dX3_copyFrom_62 : decode cX3_copyFrom 62 = .ok (.getfield 21, 3) := by decide +kernel
theorem dX3_copyFrom_65 : decode cX3_copyFrom 65 = .ok (.iconst 0, 1) := by decide +kernel
theorem dX3_copyFrom_66 : decode cX3_copyFrom 66 = .ok (.aload_n 0, 1) := by decide +kernel
theorem dX3_copyFrom_67 : decode cX3_copyFrom 67 = .ok (.getfield 21, 3) := by decide +kernel
theorem dX3_copyFrom_70 : decode cX3_copyFrom 70 = .ok (.iconst 0, 1) := by decide +kernel
theorem dX3_copyFrom_71 : decode cX3_copyFrom 71 = .ok (.bipush 12, 2) := by decide +kernel
theorem dX3_copyFrom_73 : decode cX3_copyFrom 73 = .ok (.invokestatic 61, 3) := by decide +kernel
theorem dX3_copyFrom_76 : decode cX3_copyFrom 76 = .ok (.aload_n 0, 1) := by decide +kernel
theorem dX3_copyFrom_77 : decode cX3_copyFrom 77 = .ok (.aload_n 1, 1) := by decide +kernel
theorem dX3_copyFrom_78 : decode cX3_copyFrom 78 = .ok (.getfield 58, 3) := by decide +kernel
theorem dX3_copyFrom_81 : decode cX3_copyFrom 81 = .ok (.putfield 58, 3) := by decide +kernel
theorem dX3_copyFrom_84 : decode cX3_copyFrom 84 = .ok (.aload_n 1, 1) := by decide +kernel
theorem dX3_copyFrom_85 : decode cX3_copyFrom 85 = .ok (.getfield 24, 3) := by decide +kernel
theorem dX3_copyFrom_88 : decode cX3_copyFrom 88 = .ok (.iconst 0, 1) := by decide +kernel
theorem dX3_copyFrom_89 : decode cX3_copyFrom 89 = .ok (.aload_n 0, 1) := by decide +kernel
theorem dX3_copyFrom_90 : decode cX3_copyFrom 90 = .ok (.getfield 24, 3) := by decide +kernel
theorem dX3_copyFrom_93 : decode cX3_copyFrom 93 = .ok (.iconst 0, 1) := by decide +kernel
theorem dX3_copyFrom_94 : decode cX3_copyFrom 94 = .ok (.bipush 12, 2) := by decide +kernel
theorem dX3_copyFrom_96 : decode cX3_copyFrom 96 = .ok (.invokestatic 61, 3) := by decide +kernel
theorem dX3_copyFrom_99 : decode cX3_copyFrom 99 = .ok (.aload_n 1, 1) := by decide +kernel
theorem dX3_copyFrom_100 : decode cX3_copyFrom 100 = .ok (.getfield 27, 3) := by decide +kernel
theorem dX3_copyFrom_103 : decode cX3_copyFrom 103 = .ok (.iconst 0, 1) := by decide +kernel
theorem dX3_copyFrom_104 : decode cX3_copyFrom 104 = .ok (.aload_n 0, 1) := by decide +kernel
theorem dX3_copyFrom_105 : decode cX3_copyFrom 105 = .ok (.getfield 27, 3) := by decide +kernel
theorem dX3_copyFrom_108 : decode cX3_copyFrom 108 = .ok (.iconst 0, 1) := by decide +kernel
theorem dX3_copyFrom_109 : decode cX3_copyFrom 109 = .ok (.bipush 12, 2) := by decide +kernel
theorem dX3_copyFrom_111 : decode cX3_copyFrom 111 = .ok (.invokestatic 61, 3) := by decide +kernel
theorem dX3_copyFrom_114 : decode cX3_copyFrom 114 = .ok (.aload_n 1, 1) := by decide +kernel
theorem dX3_copyFrom_115 : decode cX3_copyFrom 115 = .ok (.getfield 30, 3) := by decide +kernel
theorem dX3_copyFrom_118 : decode cX3_copyFrom 118 = .ok (.iconst 0, 1) := by decide +kernel
theorem dX3_copyFrom_119 : decode cX3_copyFrom 119 = .ok (.aload_n 0, 1) := by decide +kernel
theorem dX3_copyFrom_120 : decode cX3_copyFrom 120 = .ok (.getfield 30, 3) := by decide +kernel
theorem dX3_copyFrom_123 : decode cX3_copyFrom 123 = .ok (.iconst 0, 1) := by decide +kernel
theorem dX3_copyFrom_124 : decode cX3_copyFrom 124 = .ok (.bipush 12, 2) := by decide +kernel
theorem dX3_copyFrom_126 : decode cX3_copyFrom 126 = .ok (.invokestatic 61, 3) := by decide +kernel
theorem dX3_copyFrom_129 : decode cX3_copyFrom 129 = .ok (.aload_n 1, 1) := by decide +kernel
theorem dX3_copyFrom_130 : decode cX3_copyFrom 130 = .ok (.getfield 33, 3) := by decide +kernel
theorem dX3_copyFrom_133 : decode cX3_copyFrom 133 = .ok (.iconst 0, 1) := by decide +kernel
theorem dX3_copyFrom_134 : decode cX3_copyFrom 134 = .ok (.aload_n 0, 1) := by decide +kernel
theorem dX3_copyFrom_135 : decode cX3_copyFrom 135 = .ok (.getfield 33, 3) := by decide +kernel
theorem dX3_copyFrom_138 : decode cX3_copyFrom 138 = .ok (.iconst 0, 1) := by decide +kernel
theorem dX3_copyFrom_139 : decode cX3_copyFrom 139 = .ok (.bipush 12, 2) := by decide +kernel
theorem dX3_copyFrom_141 : decode cX3_copyFrom 141 = .ok (.invokestatic 61, 3) := by decide +kernel
theorem dX3_copyFrom_144 : decode cX3_copyFrom 144 = .ok (.aload_n 1, 1) := by decide +kernel
theorem dX3_copyFrom_145 : decode cX3_copyFrom 145 = .ok (.getfield 36, 3) := by decide +kernel
theorem dX3_copyFrom_148 : decode cX3_copyFrom 148 = .ok (.iconst 0, 1) := by decide +kernel
theorem dX3_copyFrom_149 : decode cX3_copyFrom 149 = .ok (.aload_n 0, 1) := by decide +kernel
theorem dX3_copyFrom_150 : decode cX3_copyFrom 150 = .ok (.getfield 36, 3) := by decide +kernel
theorem dX3_copyFrom_153 : decode cX3_copyFrom 153 = .ok (.iconst 0, 1) := by decide +kernel
theorem dX3_copyFrom_154 : decode cX3_copyFrom 154 = .ok (.bipush 12, 2) := by decide +kernel
theorem dX3_copyFrom_156 : decode cX3_copyFrom 156 = .ok (.invokestatic 61, 3) := by decide +kernel
theorem dX3_copyFrom_159 : decode cX3_copyFrom 159 = .ok (.return_, 1) := by decide +kernel
theorem dX3_addMeeting_0 : decode cX3_addMeeting 0 = .ok (.aload_n 0, 1) := by decide +kernel
theorem dX3_addMeeting_1 : decode cX3_addMeeting 1 = .ok (.getfield 15, 3) := by decide +kernel
theorem dX3_addMeeting_4 : decode cX3_addMeeting 4 = .ok (.aload_n 0, 1) := by decide +kernel
theorem dX3_addMeeting_5 : decode cX3_addMeeting 5 = .ok (.getfield 55, 3) := by decide +kernel
theorem dX3_addMeeting_8 : decode cX3_addMeeting 8 = .ok (.iload_n 1, 1) := by decide +kernel
theorem dX3_addMeeting_9 : decode cX3_addMeeting 9 = .ok (.iastore, 1) := by decide +kernel
theorem dX3_addMeeting_10 : decode cX3_addMeeting 10 = .ok (.aload_n 0, 1) := by decide +kernel
theorem dX3_addMeeting_11 : decode cX3_addMeeting 11 = .ok (.getfield 18, 3) := by decide +kernel
theorem dX3_addMeeting_14 : decode cX3_addMeeting 14 = .ok (.aload_n 0, 1) := by decide +kernel
theorem dX3_addMeeting_15 : decode cX3_addMeeting 15 = .ok (.getfield 55, 3) := by decide +kernel
theorem dX3_addMeeting_18 : decode cX3_addMeeting 18 = .ok (.iload_n 2, 1) := by decide +kernel
theorem dX3_addMeeting_19 : decode cX3_addMeeting 19 = .ok (.iastore, 1) := by decide +kernel
theorem dX3_addMeeting_20 : decode cX3_addMeeting 20 = .ok (.aload_n 0, 1) := by decide +kernel
theorem dX3_addMeeting_21 : decode cX3_addMeeting 21 = .ok (.getfield 21, 3) := by decide +kernel
theorem dX3_addMeeting_24 : decode cX3_addMeeting 24 = .ok (.aload_n 0, 1) := by decide +kernel
theorem dX3_addMeeting_25 : decode cX3_addMeeting 25 = .ok (.getfield 55, 3) := by decide +kernel
theorem dX3_addMeeting_28 : decode cX3_addMeeting 28 = .ok (.iload_n 3, 1) := by decide +kernel
theorem dX3_addMeeting_29 : decode cX3_addMeeting 29 = .ok (.iastore, 1) := by decide +kernel
theorem dX3_addMeeting_30 : decode cX3_addMeeting 30 = .ok (.aload_n 0, 1) := by decide +kernel
theorem dX3_addMeeting_31 : decode cX3_addMeeting 31 = .ok (.dup, 1) := by decide +kernel
theorem dX3_addMeeting_32 : decode cX3_addMeeting 32 = .ok (.getfield 55, 3) := by decide +kernel
theorem dX3_addMeeting_35 : decode cX3_addMeeting 35 = .ok (.iconst 1, 1) := by decide +kernel
theorem dX3_addMeeting_36 : decode cX3_addMeeting 36 = .ok (.iadd, 1) := by decide +kernel
theorem dX3_addMeeting_37 : decode cX3_addMeeting 37 = .ok (.putfield 55, 3) := by decide +kernel
theorem dX3_addMeeting_40 : decode cX3_addMeeting 40 = .ok (.return_, 1) := by decide +kernel
theorem dX3_addPromise_0 : decode cX3_addPromise 0 = .ok (.aload_n 0, 1) := by decide +kernel
theorem dX3_addPromise_1 : decode cX3_addPromise 1 = .ok (.getfield 24, 3) := by decide +kernel
theorem dX3_addPromise_4 : decode cX3_addPromise 4 = .ok (.aload_n 0, 1) := by decide +kernel
theorem dX3_addPromise_5 : decode cX3_addPromise 5 = .ok (.getfield 58, 3) := by decide +kernel
theorem dX3_addPromise_8 : decode cX3_addPromise 8 = .ok (.iload_n 1, 1) := by decide +kernel
theorem dX3_addPromise_9 : decode cX3_addPromise 9 = .ok (.iastore, 1) := by decide +kernel
theorem dX3_addPromise_10 : decode cX3_addPromise 10 = .ok (.aload_n 0, 1) := by decide +kernel
theorem dX3_addPromise_11 : decode cX3_addPromise 11 = .ok (.getfield 27, 3) := by decide +kernel
theorem dX3_addPromise_14 : decode cX3_addPromise 14 = .ok (.aload_n 0, 1) := by decide +kernel
theorem dX3_addPromise_15 : decode cX3_addPromise 15 = .ok (.getfield 58, 3) := by decide +kernel
theorem dX3_addPromise_18 : decode cX3_addPromise 18 = .ok (.iload_n 2, 1) := by decide +kernel
theorem dX3_addPromise_19 : decode cX3_addPromise 19 = .ok (.iastore, 1) := by decide +kernel
theorem dX3_addPromise_20 : decode cX3_addPromise 20 = .ok (.aload_n 0, 1) := by decide +kernel
theorem dX3_addPromise_21 : decode cX3_addPromise 21 = .ok (.getfield 30, 3) := by decide +kernel
theorem dX3_addPromise_24 : decode cX3_addPromise 24 = .ok (.aload_n 0, 1) := by decide +kernel
theorem dX3_addPromise_25 : decode cX3_addPromise 25 = .ok (.getfield 58, 3) := by decide +kernel
theorem dX3_addPromise_28 : decode cX3_addPromise 28 = .ok (.iload_n 3, 1) := by decide +kernel
theorem dX3_addPromise_29 : decode cX3_addPromise 29 = .ok (.iastore, 1) := by decide +kernel
theorem dX3_addPromise_30 : decode cX3_addPromise 30 = .ok (.aload_n 0, 1) := by decide +kernel
theorem dX3_addPromise_31 : decode cX3_addPromise 31 = .ok (.getfield 33, 3) := by decide +kernel
theorem dX3_addPromise_34 : decode cX3_addPromise 34 = .ok (.aload_n 0, 1) := by decide +kernel
theorem dX3_addPromise_35 : decode cX3_addPromise 35 = .ok (.getfield 58, 3) := by decide +kernel
theorem dX3_addPromise_38 : decode cX3_addPromise 38 = .ok (.iload 4, 2) := by decide +kernel
theorem dX3_addPromise_40 : decode cX3_addPromise 40 = .ok (.iastore, 1) := by decide +kernel
theorem dX3_addPromise_41 : decode cX3_addPromise 41 = .ok (.aload_n 0, 1) := by decide +kernel
theorem dX3_addPromise_42 : decode cX3_addPromise 42 = .ok (.getfield 36, 3) := by decide +kernel
theorem dX3_addPromise_45 : decode cX3_addPromise 45 = .ok (.aload_n 0, 1) := by decide +kernel
theorem dX3_addPromise_46 : decode cX3_addPromise 46 = .ok (.getfield 58, 3) := by decide +kernel
theorem dX3_addPromise_49 : decode cX3_addPromise 49 = .ok (.iload 5, 2) := by decide +kernel
theorem dX3_addPromise_51 : decode cX3_addPromise 51 = .ok (.iastore, 1) := by decide +kernel
theorem dX3_addPromise_52 : decode cX3_addPromise 52 = .ok (.aload_n 0, 1) := by decide +kernel
theorem dX3_addPromise_53 : decode cX3_addPromise 53 = .ok (.dup, 1) := by decide +kernel
theorem dX3_addPromise_54 : decode cX3_addPromise 54 = .ok (.getfield 58, 3) := by decide +kernel
theorem dX3_addPromise_57 : decode cX3_addPromise 57 = .ok (.iconst 1, 1) := by decide +kernel
theorem dX3_addPromise_58 : decode cX3_addPromise 58 = .ok (.iadd, 1) := by decide +kernel
theorem dX3_addPromise_59 : decode cX3_addPromise 59 = .ok (.putfield 58, 3) := by decide +kernel
theorem dX3_addPromise_62 : decode cX3_addPromise 62 = .ok (.return_, 1) := by decide +kernel
theorem dX3_arrange_0 : decode cX3_arrange 0 = .ok (.iconst 0, 1) := by decide +kernel
theorem dX3_arrange_1 : decode cX3_arrange 1 = .ok (.istore_n 1, 1) := by decide +kernel
theorem dX3_arrange_2 : decode cX3_arrange 2 = .ok (.aload_n 0, 1) := by decide +kernel
theorem dX3_arrange_3 : decode cX3_arrange 3 = .ok (.iconst 0, 1) := by decide +kernel
theorem dX3_arrange_4 : decode cX3_arrange 4 = .ok (.putfield 67, 3) := by decide +kernel
theorem dX3_arrange_7 : decode cX3_arrange 7 = .ok (.iconst 0, 1) := by decide +kernel
theorem dX3_arrange_8 : decode cX3_arrange 8 = .ok (.istore_n 2, 1) := by decide +kernel
theorem dX3_arrange_9 : decode cX3_arrange 9 = .ok (.iload_n 2, 1) := by decide +kernel
theorem dX3_arrange_10 : decode cX3_arrange 10 = .ok (.bipush 12, 2) := by decide +kernel
theorem dX3_arrange_12 : decode cX3_arrange 12 = .ok (.if_icmp .ge 66, 3) := by decide +kernel
theorem dX3_arrange_15 : decode cX3_arrange 15 = .ok (.aload_n 0, 1) := by decide +kernel
theorem dX3_arrange_16 : decode cX3_arrange 16 = .ok (.getfield 42, 3) := by decide +kernel
theorem dX3_arrange_19 : decode cX3_arrange 19 = .ok (.iload_n 2, 1) := by decide +kernel
theorem dX3_arrange_20 : decode cX3_arrange 20 = .ok (.iload_n 1, 1) := by decide +kernel
theorem dX3_arrange_21 : decode cX3_arrange 21 = .ok (.iastore, 1) := by decide +kernel
theorem dX3_arrange_22 : decode cX3_arrange 22 = .ok (.iconst 0, 1) := by decide +kernel
theorem dX3_arrange_23 : decode cX3_arrange 23 = .ok (.istore_n 3, 1) := by decide +kernel
theorem dX3_arrange_24 : decode cX3_arrange 24 = .ok (.iload_n 3, 1) := by decide +kernel
theorem dX3_arrange_25 : decode cX3_arrange 25 = .ok (.aload_n 0, 1) := by decide +kernel
theorem dX3_arrange_26 : decode cX3_arrange 26 = .ok (.getfield 55, 3) := by decide +kernel
theorem dX3_arrange_29 : decode cX3_arrange 29 = .ok (.if_icmp .ge 43, 3) := by decide +kernel
theorem dX3_arrange_32 : decode cX3_arrange 32 = .ok (.aload_n 0, 1) := by decide +kernel
theorem dX3_arrange_33 : decode cX3_arrange 33 = .ok (.getfield 21, 3) := by decide +kernel
theorem dX3_arrange_36 : decode cX3_arrange 36 = .ok (.iload_n 3, 1) := by decide +kernel
theorem dX3_arrange_37 : decode cX3_arrange 37 = .ok (.iaload, 1) := by decide +kernel
theorem dX3_arrange_38 : decode cX3_arrange 38 = .ok (.iload_n 2, 1) := by decide +kernel
theorem dX3_arrange_39 : decode cX3_arrange 39 = .ok (.if_icmp .ne 27, 3) := by decide +kernel
theorem dX3_arrange_42 : decode cX3_arrange 42 = .ok (.aload_n 0, 1) := by decide +kernel
theorem dX3_arrange_43 : decode cX3_arrange 43 = .ok (.getfield 39, 3) := by decide +kernel
theorem dX3_arrange_46 : decode cX3_arrange 46 = .ok (.iload_n 1, 1) := by decide +kernel
theorem dX3_arrange_47 : decode cX3_arrange 47 = .ok (.iload_n 3, 1) := by decide +kernel
theorem dX3_arrange_48 : decode cX3_arrange 48 = .ok (.iastore, 1) := by decide +kernel
theorem dX3_arrange_49 : decode cX3_arrange 49 = .ok (.iinc 1 1, 3) := by decide +kernel
theorem dX3_arrange_52 : decode cX3_arrange 52 = .ok (.aload_n 0, 1) := by decide +kernel
theorem dX3_arrange_53 : decode cX3_arrange 53 = .ok (.dup, 1) := by decide +kernel
theorem dX3_arrange_54 : decode cX3_arrange 54 = .ok (.getfield 67, 3) := by decide +kernel
theorem dX3_arrange_57 : decode cX3_arrange 57 = .ok (.aload_n 0, 1) := by decide +kernel
theorem dX3_arrange_58 : decode cX3_arrange 58 = .ok (.iload_n 3, 1) := by decide +kernel
theorem dX3_arrange_59 : decode cX3_arrange 59 = .ok (.invokevirtual 70, 3) := by decide +kernel
theorem dX3_arrange_62 : decode cX3_arrange 62 = .ok (.ior, 1) := by decide +kernel
theorem dX3_arrange_63 : decode cX3_arrange 63 = .ok (.putfield 67, 3) := by decide +kernel
theorem dX3_arrange_66 : decode cX3_arrange 66 = .ok (.iinc 3 1, 3) := by decide +kernel
theorem dX3_arrange_69 : decode cX3_arrange 69 = .ok (.goto (-45), 3) := by decide +kernel
theorem dX3_arrange_72 : decode cX3_arrange 72 = .ok (.iinc 2 1, 3) := by decide +kernel
theorem dX3_arrange_75 : decode cX3_arrange 75 = .ok (.goto (-66), 3) := by decide +kernel
theorem dX3_arrange_78 : decode cX3_arrange 78 = .ok (.aload_n 0, 1) := by decide +kernel
theorem dX3_arrange_79 : decode cX3_arrange 79 = .ok (.getfield 42, 3) := by decide +kernel
theorem dX3_arrange_82 : decode cX3_arrange 82 = .ok (.bipush 12, 2) := by decide +kernel
theorem dX3_arrange_84 : decode cX3_arrange 84 = .ok (.iload_n 1, 1) := by decide +kernel
theorem dX3_arrange_85 : decode cX3_arrange 85 = .ok (.iastore, 1) := by decide +kernel
theorem dX3_arrange_86 : decode cX3_arrange 86 = .ok (.return_, 1) := by decide +kernel
theorem dX3_speakerAt_0 : decode cX3_speakerAt 0 = .ok (.iload_n 2, 1) := by decide +kernel
theorem dX3_speakerAt_1 : decode cX3_speakerAt 1 = .ok (.ifCond .ne 12, 3) := by decide +kernel
theorem dX3_speakerAt_4 : decode cX3_speakerAt 4 = .ok (.aload_n 0, 1) := by decide +kernel
theorem dX3_speakerAt_5 : decode cX3_speakerAt 5 = .ok (.getfield 15, 3) := by decide +kernel
theorem dX3_speakerAt_8 : decode cX3_speakerAt 8 = .ok (.iload_n 1, 1) := by decide +kernel
theorem dX3_speakerAt_9 : decode cX3_speakerAt 9 = .ok (.iaload, 1) := by decide +kernel
theorem dX3_speakerAt_10 : decode cX3_speakerAt 10 = .ok (.goto 9, 3) := by decide +kernel
theorem dX3_speakerAt_13 : decode cX3_speakerAt 13 = .ok (.aload_n 0, 1) := by decide +kernel
theorem dX3_speakerAt_14 : decode cX3_speakerAt 14 = .ok (.getfield 18, 3) := by decide +kernel
theorem dX3_speakerAt_17 : decode cX3_speakerAt 17 = .ok (.iload_n 1, 1) := by decide +kernel
theorem dX3_speakerAt_18 : decode cX3_speakerAt 18 = .ok (.iaload, 1) := by decide +kernel
theorem dX3_speakerAt_19 : decode cX3_speakerAt 19 = .ok (.ireturn, 1) := by decide +kernel
theorem dX3_bothOf_0 : decode cX3_bothOf 0 = .ok (.iconst 1, 1) := by decide +kernel
theorem dX3_bothOf_1 : decode cX3_bothOf 1 = .ok (.aload_n 0, 1) := by decide +kernel
theorem dX3_bothOf_2 : decode cX3_bothOf 2 = .ok (.getfield 15, 3) := by decide +kernel
theorem dX3_bothOf_5 : decode cX3_bothOf 5 = .ok (.iload_n 1, 1) := by decide +kernel
theorem dX3_bothOf_6 : decode cX3_bothOf 6 = .ok (.iaload, 1) := by decide +kernel
theorem dX3_bothOf_7 : decode cX3_bothOf 7 = .ok (.ishl, 1) := by decide +kernel
theorem dX3_bothOf_8 : decode cX3_bothOf 8 = .ok (.iconst 1, 1) := by decide +kernel
theorem dX3_bothOf_9 : decode cX3_bothOf 9 = .ok (.aload_n 0, 1) := by decide +kernel
theorem dX3_bothOf_10 : decode cX3_bothOf 10 = .ok (.getfield 18, 3) := by decide +kernel
theorem dX3_bothOf_13 : decode cX3_bothOf 13 = .ok (.iload_n 1, 1) := by decide +kernel
theorem dX3_bothOf_14 : decode cX3_bothOf 14 = .ok (.iaload, 1) := by decide +kernel
theorem dX3_bothOf_15 : decode cX3_bothOf 15 = .ok (.ishl, 1) := by decide +kernel
theorem dX3_bothOf_16 : decode cX3_bothOf 16 = .ok (.ior, 1) := by decide +kernel
theorem dX3_bothOf_17 : decode cX3_bothOf 17 = .ok (.ireturn, 1) := by decide +kernel
theorem dX3_everybody_0 : decode cX3_everybody 0 = .ok (.iconst 1, 1) := by decide +kernel
theorem dX3_everybody_1 : decode cX3_everybody 1 = .ok (.aload_n 0, 1) := by decide +kernel
theorem dX3_everybody_2 : decode cX3_everybody 2 = .ok (.getfield 45, 3) := by decide +kernel
theorem dX3_everybody_5 : decode cX3_everybody 5 = .ok (.ishl, 1) := by decide +kernel
theorem dX3_everybody_6 : decode cX3_everybody 6 = .ok (.iconst 1, 1) := by decide +kernel
theorem dX3_everybody_7 : decode cX3_everybody 7 = .ok (.isub, 1) := by decide +kernel
theorem dX3_everybody_8 : decode cX3_everybody 8 = .ok (.ireturn, 1) := by decide +kernel
theorem dX4_init_0 : decode cX4_init 0 = .ok (.aload_n 0, 1) := by decide +kernel
theorem dX4_init_1 : decode cX4_init 1 = .ok (.invokespecial 3, 3) := by decide +kernel
theorem dX4_init_4 : decode cX4_init 4 = .ok (.aload_n 0, 1) := by decide +kernel
theorem dX4_init_5 : decode cX4_init 5 = .ok (.new 9, 3) := by decide +kernel
theorem dX4_init_8 : decode cX4_init 8 = .ok (.dup, 1) := by decide +kernel
theorem dX4_init_9 : decode cX4_init 9 = .ok (.invokespecial 11, 3) := by decide +kernel
theorem dX4_init_12 : decode cX4_init 12 = .ok (.putfield 12, 3) := by decide +kernel
theorem dX4_init_15 : decode cX4_init 15 = .ok (.aload_n 0, 1) := by decide +kernel
theorem dX4_init_16 : decode cX4_init 16 = .ok (.aload_n 1, 1) := by decide +kernel
theorem dX4_init_17 : decode cX4_init 17 = .ok (.putfield 18, 3) := by decide +kernel
theorem dX4_init_20 : decode cX4_init 20 = .ok (.return_, 1) := by decide +kernel
theorem dX4_read_0 : decode cX4_read 0 = .ok (.aload_n 0, 1) := by decide +kernel
theorem dX4_read_1 : decode cX4_read 1 = .ok (.iload_n 1, 1) := by decide +kernel
theorem dX4_read_2 : decode cX4_read 2 = .ok (.putfield 22, 3) := by decide +kernel
theorem dX4_read_5 : decode cX4_read 5 = .ok (.aload_n 0, 1) := by decide +kernel
theorem dX4_read_6 : decode cX4_read 6 = .ok (.getfield 12, 3) := by decide +kernel
theorem dX4_read_9 : decode cX4_read 9 = .ok (.invokevirtual 26, 3) := by decide +kernel
theorem dX4_read_12 : decode cX4_read 12 = .ok (.aload_n 0, 1) := by decide +kernel
theorem dX4_read_13 : decode cX4_read 13 = .ok (.iconst 0, 1) := by decide +kernel
theorem dX4_read_14 : decode cX4_read 14 = .ok (.putfield 29, 3) := by decide +kernel
theorem dX4_read_17 : decode cX4_read 17 = .ok (.aload_n 0, 1) := by decide +kernel
theorem dX4_read_18 : decode cX4_read 18 = .ok (.iconst 0, 1) := by decide +kernel
theorem dX4_read_19 : decode cX4_read 19 = .ok (.putfield 32, 3) := by decide +kernel
theorem dX4_read_22 : decode cX4_read 22 = .ok (.aload_n 0, 1) := by decide +kernel
theorem dX4_read_23 : decode cX4_read 23 = .ok (.invokevirtual 35, 3) := by decide +kernel
theorem dX4_read_26 : decode cX4_read 26 = .ok (.iconst 0, 1) := by decide +kernel
theorem dX4_read_27 : decode cX4_read 27 = .ok (.istore_n 2, 1) := by decide +kernel
theorem dX4_read_28 : decode cX4_read 28 = .ok (.iload_n 2, 1) := by decide +kernel
theorem dX4_read_29 : decode cX4_read 29 = .ok (.aload_n 0, 1) := by decide +kernel
theorem dX4_read_30 : decode cX4_read 30 = .ok (.getfield 22, 3) := by decide +kernel
theorem dX4_read_33 : decode cX4_read 33 = .ok (.if_icmp .ge 27, 3) := by decide +kernel
theorem dX4_read_36 : decode cX4_read 36 = .ok (.aload_n 0, 1) := by decide +kernel
theorem dX4_read_37 : decode cX4_read 37 = .ok (.getfield 38, 3) := by decide +kernel
theorem dX4_read_40 : decode cX4_read 40 = .ok (.ifCond .eq 20, 3) := by decide +kernel
theorem dX4_read_43 : decode cX4_read 43 = .ok (.aload_n 0, 1) := by decide +kernel
theorem dX4_read_44 : decode cX4_read 44 = .ok (.iload_n 2, 1) := by decide +kernel
theorem dX4_read_45 : decode cX4_read 45 = .ok (.invokevirtual 41, 3) := by decide +kernel
theorem dX4_read_48 : decode cX4_read 48 = .ok (.ifCond .ne 6, 3) := by decide +kernel
theorem dX4_read_51 : decode cX4_read 51 = .ok (.goto 9, 3) := by decide +kernel
theorem dX4_read_54 : decode cX4_read 54 = .ok (.iinc 2 1, 3) := by decide +kernel
theorem dX4_read_57 : decode cX4_read 57 = .ok (.goto (-29), 3) := by decide +kernel
theorem dX4_read_60 : decode cX4_read 60 = .ok (.aload_n 0, 1) := by decide +kernel
theorem dX4_read_61 : decode cX4_read 61 = .ok (.getfield 29, 3) := by decide +kernel
theorem dX4_read_64 : decode cX4_read 64 = .ok (.ireturn, 1) := by decide +kernel
theorem dX4_readLine_0 : decode cX4_readLine 0 = .ok (.aload_n 0, 1) := by decide +kernel
theorem dX4_readLine_1 : decode cX4_readLine 1 = .ok (.ldc 45, 2) := by decide +kernel
theorem dX4_readLine_3 : decode cX4_readLine 3 = .ok (.invokevirtual 47, 3) := by decide +kernel
theorem dX4_readLine_6 : decode cX4_readLine 6 = .ok (.ifCond .eq 20, 3) := by decide +kernel
theorem dX4_readLine_9 : decode cX4_readLine 9 = .ok (.iload_n 1, 1) := by decide +kernel
theorem dX4_readLine_10 : decode cX4_readLine 10 = .ok (.ifCond .ne 10, 3) := by decide +kernel
theorem dX4_readLine_13 : decode cX4_readLine 13 = .ok (.aload_n 0, 1) := by decide +kernel
theorem dX4_readLine_14 : decode cX4_readLine 14 = .ok (.invokevirtual 51, 3) := by decide +kernel
theorem dX4_readLine_17 : decode cX4_readLine 17 = .ok (.goto 8, 3) := by decide +kernel
theorem dX4_readLine_20 : decode cX4_readLine 20 = .ok (.aload_n 0, 1) := by decide +kernel
theorem dX4_readLine_21 : decode cX4_readLine 21 = .ok (.iconst 5, 1) := by decide +kernel
theorem dX4_readLine_22 : decode cX4_readLine 22 = .ok (.invokevirtual 55, 3) := by decide +kernel
theorem dX4_readLine_25 : decode cX4_readLine 25 = .ok (.ireturn, 1) := by decide +kernel
theorem dX4_readLine_26 : decode cX4_readLine 26 = .ok (.aload_n 0, 1) := by decide +kernel
theorem dX4_readLine_27 : decode cX4_readLine 27 = .ok (.ldc 58, 2) := by decide +kernel
theorem dX4_readLine_29 : decode cX4_readLine 29 = .ok (.invokevirtual 47, 3) := by decide +kernel
theorem dX4_readLine_32 : decode cX4_readLine 32 = .ok (.ifCond .eq 8, 3) := by decide +kernel
theorem dX4_readLine_35 : decode cX4_readLine 35 = .ok (.aload_n 0, 1) := by decide +kernel
theorem dX4_readLine_36 : decode cX4_readLine 36 = .ok (.invokevirtual 60, 3) := by decide +kernel
theorem dX4_readLine_39 : decode cX4_readLine 39 = .ok (.ireturn, 1) := by decide +kernel
theorem dX4_readLine_40 : decode cX4_readLine 40 = .ok (.aload_n 0, 1) := by decide +kernel
theorem dX4_readLine_41 : decode cX4_readLine 41 = .ok (.ldc 63, 2) := by decide +kernel
theorem dX4_readLine_43 : decode cX4_readLine 43 = .ok (.invokevirtual 47, 3) := by decide +kernel
theorem dX4_readLine_46 : decode cX4_readLine 46 = .ok (.ifCond .eq 28, 3) := by decide +kernel
theorem dX4_readLine_49 : decode cX4_readLine 49 = .ok (.aload_n 0, 1) := by decide +kernel
theorem dX4_readLine_50 : decode cX4_readLine 50 = .ok (.getfield 12, 3) := by decide +kernel
theorem dX4_readLine_53 : decode cX4_readLine 53 = .ok (.getfield 65, 3) := by decide +kernel
theorem dX4_readLine_56 : decode cX4_readLine 56 = .ok (.bipush 12, 2) := by decide +kernel
theorem dX4_readLine_58 : decode cX4_readLine 58 = .ok (.if_icmp .ge 10, 3) := by decide +kernel
theorem dX4_readLine_61 : decode cX4_readLine 61 = .ok (.aload_n 0, 1) := by decide +kernel
theorem dX4_readLine_62 : decode cX4_readLine 62 = .ok (.invokevirtual 68, 3) := by decide +kernel
theorem dX4_readLine_65 : decode cX4_readLine 65 = .ok (.goto 8, 3) := by decide +kernel
theorem dX4_readLine_68 : decode cX4_readLine 68 = .ok (.aload_n 0, 1) := by decide +kernel
theorem dX4_readLine_69 : decode cX4_readLine 69 = .ok (.iconst 2, 1) := by decide +kernel
theorem dX4_readLine_70 : decode cX4_readLine 70 = .ok (.invokevirtual 55, 3) := by decide +kernel
theorem dX4_readLine_73 : decode cX4_readLine 73 = .ok (.ireturn, 1) := by decide +kernel
theorem dX4_readLine_74 : decode cX4_readLine 74 = .ok (.aload_n 0, 1) := by decide +kernel
theorem dX4_readLine_75 : decode cX4_readLine 75 = .ok (.ldc 71, 2) := by decide +kernel
theorem dX4_readLine_77 : decode cX4_readLine 77 = .ok (.invokevirtual 47, 3) := by decide +kernel
theorem dX4_readLine_80 : decode cX4_readLine 80 = .ok (.ifCond .eq 28, 3) := by decide +kernel
theorem dX4_readLine_83 : decode cX4_readLine 83 = .ok (.aload_n 0, 1) := by decide +kernel
theorem dX4_readLine_84 : decode cX4_readLine 84 = .ok (.getfield 12, 3) := by decide +kernel
theorem dX4_readLine_87 : decode cX4_readLine 87 = .ok (.getfield 73, 3) := by decide +kernel
theorem dX4_readLine_90 : decode cX4_readLine 90 = .ok (.bipush 12, 2) := by decide +kernel
theorem dX4_readLine_92 : decode cX4_readLine 92 = .ok (.if_icmp .ge 10, 3) := by decide +kernel
theorem dX4_readLine_95 : decode cX4_readLine 95 = .ok (.aload_n 0, 1) := by decide +kernel
theorem dX4_readLine_96 : decode cX4_readLine 96 = .ok (.invokevirtual 76, 3) := by decide +kernel
theorem dX4_readLine_99 : decode cX4_readLine 99 = .ok (.goto 8, 3) := by decide +kernel
theorem dX4_readLine_102 : decode cX4_readLine 102 = .ok (.aload_n 0, 1) := by decide +kernel
theorem dX4_readLine_103 : decode cX4_readLine 103 = .ok (.iconst 2, 1) := by decide +kernel
theorem dX4_readLine_104 : decode cX4_readLine 104 = .ok (.invokevirtual 55, 3) := by decide +kernel
theorem dX4_readLine_107 : decode cX4_readLine 107 = .ok (.ireturn, 1) := by decide +kernel
theorem dX4_readLine_108 : decode cX4_readLine 108 = .ok (.aload_n 0, 1) := by decide +kernel
theorem dX4_readLine_109 : decode cX4_readLine 109 = .ok (.iconst 1, 1) := by decide +kernel
theorem dX4_readLine_110 : decode cX4_readLine 110 = .ok (.invokevirtual 55, 3) := by decide +kernel
theorem dX4_readLine_113 : decode cX4_readLine 113 = .ok (.ireturn, 1) := by decide +kernel
theorem dX4_readPeople_0 : decode cX4_readPeople 0 = .ok (.aload_n 0, 1) := by decide +kernel
theorem dX4_readPeople_1 : decode cX4_readPeople 1 = .ok (.invokevirtual 35, 3) := by decide +kernel
theorem dX4_readPeople_4 : decode cX4_readPeople 4 = .ok (.aload_n 0, 1) := by decide +kernel
theorem dX4_readPeople_5 : decode cX4_readPeople 5 = .ok (.iconst 2, 1) := by decide +kernel
theorem dX4_readPeople_6 : decode cX4_readPeople 6 = .ok (.bipush 6, 2) := by decide +kernel
theorem dX4_readPeople_8 : decode cX4_readPeople 8 = .ok (.iconst 2, 1) := by decide +kernel
theorem dX4_readPeople_9 : decode cX4_readPeople 9 = .ok (.invokevirtual 79, 3) := by decide +kernel
theorem dX4_readPeople_12 : decode cX4_readPeople 12 = .ok (.ifCond .ne 5, 3) := by decide +kernel
theorem dX4_readPeople_15 : decode cX4_readPeople 15 = .ok (.iconst 0, 1) := by decide +kernel
theorem dX4_readPeople_16 : decode cX4_readPeople 16 = .ok (.ireturn, 1) := by decide +kernel
theorem dX4_readPeople_17 : decode cX4_readPeople 17 = .ok (.aload_n 0, 1) := by decide +kernel
theorem dX4_readPeople_18 : decode cX4_readPeople 18 = .ok (.getfield 12, 3) := by decide +kernel
theorem dX4_readPeople_21 : decode cX4_readPeople 21 = .ok (.aload_n 0, 1) := by decide +kernel
theorem dX4_readPeople_22 : decode cX4_readPeople 22 = .ok (.getfield 83, 3) := by decide +kernel
theorem dX4_readPeople_25 : decode cX4_readPeople 25 = .ok (.putfield 86, 3) := by decide +kernel
theorem dX4_readPeople_28 : decode cX4_readPeople 28 = .ok (.aload_n 0, 1) := by decide +kernel
theorem dX4_readPeople_29 : decode cX4_readPeople 29 = .ok (.invokevirtual 88, 3) := by decide +kernel
theorem dX4_readPeople_32 : decode cX4_readPeople 32 = .ok (.ireturn, 1) := by decide +kernel
theorem dX4_readPrice_0 : decode cX4_readPrice 0 = .ok (.aload_n 0, 1) := by decide +kernel
theorem dX4_readPrice_1 : decode cX4_readPrice 1 = .ok (.invokevirtual 35, 3) := by decide +kernel
theorem dX4_readPrice_4 : decode cX4_readPrice 4 = .ok (.aload_n 0, 1) := by decide +kernel
theorem dX4_readPrice_5 : decode cX4_readPrice 5 = .ok (.invokevirtual 91, 3) := by decide +kernel
theorem dX4_readPrice_8 : decode cX4_readPrice 8 = .ok (.ifCond .ne 5, 3) := by decide +kernel
theorem dX4_readPrice_11 : decode cX4_readPrice 11 = .ok (.iconst 0, 1) := by decide +kernel
theorem dX4_readPrice_12 : decode cX4_readPrice 12 = .ok (.ireturn, 1) := by decide +kernel
theorem dX4_readPrice_13 : decode cX4_readPrice 13 = .ok (.aload_n 0, 1) := by decide +kernel
theorem dX4_readPrice_14 : decode cX4_readPrice 14 = .ok (.getfield 83, 3) := by decide +kernel
theorem dX4_readPrice_17 : decode cX4_readPrice 17 = .ok (.istore_n 1, 1) := by decide +kernel
theorem dX4_readPrice_18 : decode cX4_readPrice 18 = .ok (.aload_n 0, 1) := by decide +kernel
theorem dX4_readPrice_19 : decode cX4_readPrice 19 = .ok (.iconst 0, 1) := by decide +kernel
theorem dX4_readPrice_20 : decode cX4_readPrice 20 = .ok (.bipush 99, 2) := by decide +kernel
theorem dX4_readPrice_22 : decode cX4_readPrice 22 = .ok (.iconst 2, 1) := by decide +kernel
theorem dX4_readPrice_23 : decode cX4_readPrice 23 = .ok (.invokevirtual 79, 3) := by decide +kernel
theorem dX4_readPrice_26 : decode cX4_readPrice 26 = .ok (.ifCond .ne 5, 3) := by decide +kernel
theorem dX4_readPrice_29 : decode cX4_readPrice 29 = .ok (.iconst 0, 1) := by decide +kernel
theorem dX4_readPrice_30 : decode cX4_readPrice 30 = .ok (.ireturn, 1) := by decide +kernel
theorem dX4_readPrice_31 : decode cX4_readPrice 31 = .ok (.aload_n 0, 1) := by decide +kernel
theorem dX4_readPrice_32 : decode cX4_readPrice 32 = .ok (.getfield 12, 3) := by decide +kernel
theorem dX4_readPrice_35 : decode cX4_readPrice 35 = .ok (.getfield 94, 3) := by decide +kernel
theorem dX4_readPrice_38 : decode cX4_readPrice 38 = .ok (.iload_n 1, 1) := by decide +kernel
theorem dX4_readPrice_39 : decode cX4_readPrice 39 = .ok (.aload_n 0, 1) := by decide +kernel
theorem dX4_readPrice_40 : decode cX4_readPrice 40 = .ok (.getfield 83, 3) := by decide +kernel
theorem dX4_readPrice_43 : decode cX4_readPrice 43 = .ok (.iastore, 1) := by decide +kernel
theorem dX4_readPrice_44 : decode cX4_readPrice 44 = .ok (.aload_n 0, 1) := by decide +kernel
theorem dX4_readPrice_45 : decode cX4_readPrice 45 = .ok (.invokevirtual 88, 3) := by decide +kernel
theorem dX4_readPrice_48 : decode cX4_readPrice 48 = .ok (.ireturn, 1) := by decide +kernel
theorem dX4_readMeeting_0 : decode cX4_readMeeting 0 = .ok (.aload_n 0, 1) := by decide +kernel
theorem dX4_readMeeting_1 : decode cX4_readMeeting 1 = .ok (.invokevirtual 35, 3) := by decide +kernel
theorem dX4_readMeeting_4 : decode cX4_readMeeting 4 = .ok (.aload_n 0, 1) := by decide +kernel
theorem dX4_readMeeting_5 : decode cX4_readMeeting 5 = .ok (.invokevirtual 91, 3) := by decide +kernel
theorem dX4_readMeeting_8 : decode cX4_readMeeting 8 = .ok (.ifCond .ne 5, 3) := by decide +kernel
theorem dX4_readMeeting_11 : decode cX4_readMeeting 11 = .ok (.iconst 0, 1) := by decide +kernel
theorem dX4_readMeeting_12 : decode cX4_readMeeting 12 = .ok (.ireturn, 1) := by decide +kernel
theorem dX4_readMeeting_13 : decode cX4_readMeeting 13 = .ok (.aload_n 0, 1) := by decide +kernel
theorem dX4_readMeeting_14 : decode cX4_readMeeting 14 = .ok (.getfield 83, 3) := by decide +kernel
theorem dX4_readMeeting_17 : decode cX4_readMeeting 17 = .ok (.istore_n 1, 1) := by decide +kernel
theorem dX4_readMeeting_18 : decode cX4_readMeeting 18 = .ok (.aload_n 0, 1) := by decide +kernel
theorem dX4_readMeeting_19 : decode cX4_readMeeting 19 = .ok (.iload_n 1, 1) := by decide +kernel
theorem dX4_readMeeting_20 : decode cX4_readMeeting 20 = .ok (.invokevirtual 97, 3) := by decide +kernel
theorem dX4_readMeeting_23 : decode cX4_readMeeting 23 = .ok (.ifCond .ne 5, 3) := by decide +kernel
theorem dX4_readMeeting_26 : decode cX4_readMeeting 26 = .ok (.iconst 0, 1) := by decide +kernel
theorem dX4_readMeeting_27 : decode cX4_readMeeting 27 = .ok (.ireturn, 1) := by decide +kernel
theorem dX4_readMeeting_28 : decode cX4_readMeeting 28 = .ok (.aload_n 0, 1) := by decide +kernel
theorem dX4_readMeeting_29 : decode cX4_readMeeting 29 = .ok (.getfield 83, 3) := by decide +kernel
theorem dX4_readMeeting_32 : decode cX4_readMeeting 32 = .ok (.istore_n 2, 1) := by decide +kernel
theorem dX4_readMeeting_33 : decode cX4_readMeeting 33 = .ok (.aload_n 0, 1) := by decide +kernel
theorem dX4_readMeeting_34 : decode cX4_readMeeting 34 = .ok (.invokevirtual 100, 3) := by decide +kernel
theorem dX4_readMeeting_37 : decode cX4_readMeeting 37 = .ok (.ifCond .ne 5, 3) := by decide +kernel
theorem dX4_readMeeting_40 : decode cX4_readMeeting 40 = .ok (.iconst 0, 1) := by decide +kernel
theorem dX4_readMeeting_41 : decode cX4_readMeeting 41 = .ok (.ireturn, 1) := by decide +kernel
theorem dX4_readMeeting_42 : decode cX4_readMeeting 42 = .ok (.aload_n 0, 1) := by decide +kernel
theorem dX4_readMeeting_43 : decode cX4_readMeeting 43 = .ok (.getfield 12, 3) := by decide +kernel
theorem dX4_readMeeting_46 : decode cX4_readMeeting 46 = .ok (.iload_n 1, 1) := by decide +kernel
theorem dX4_readMeeting_47 : decode cX4_readMeeting 47 = .ok (.iload_n 2, 1) := by decide +kernel
theorem dX4_readMeeting_48 : decode cX4_readMeeting 48 = .ok (.aload_n 0, 1) := by decide +kernel
theorem dX4_readMeeting_49 : decode cX4_readMeeting 49 = .ok (.getfield 83, 3) := by decide +kernel
theorem dX4_readMeeting_52 : decode cX4_readMeeting 52 = .ok (.invokevirtual 103, 3) := by decide +kernel
theorem dX4_readMeeting_55 : decode cX4_readMeeting 55 = .ok (.aload_n 0, 1) := by decide +kernel
theorem dX4_readMeeting_56 : decode cX4_readMeeting 56 = .ok (.invokevirtual 88, 3) := by decide +kernel
theorem dX4_readMeeting_59 : decode cX4_readMeeting 59 = .ok (.ireturn, 1) := by decide +kernel
theorem dX4_readPromise_0 : decode cX4_readPromise 0 = .ok (.aload_n 0, 1) := by decide +kernel
theorem dX4_readPromise_1 : decode cX4_readPromise 1 = .ok (.invokevirtual 35, 3) := by decide +kernel
theorem dX4_readPromise_4 : decode cX4_readPromise 4 = .ok (.aload_n 0, 1) := by decide +kernel
theorem dX4_readPromise_5 : decode cX4_readPromise 5 = .ok (.invokevirtual 91, 3) := by decide +kernel
theorem dX4_readPromise_8 : decode cX4_readPromise 8 = .ok (.ifCond .ne 5, 3) := by decide +kernel
theorem dX4_readPromise_11 : decode cX4_readPromise 11 = .ok (.iconst 0, 1) := by decide +kernel
theorem dX4_readPromise_12 : decode cX4_readPromise 12 = .ok (.ireturn, 1) := by decide +kernel
theorem dX4_readPromise_13 : decode cX4_readPromise 13 = .ok (.aload_n 0, 1) := by decide +kernel
theorem dX4_readPromise_14 : decode cX4_readPromise 14 = .ok (.getfield 83, 3) := by decide +kernel
theorem dX4_readPromise_17 : decode cX4_readPromise 17 = .ok (.istore_n 1, 1) := by decide +kernel
theorem dX4_readPromise_18 : decode cX4_readPromise 18 = .ok (.aload_n 0, 1) := by decide +kernel
theorem dX4_readPromise_19 : decode cX4_readPromise 19 = .ok (.iload_n 1, 1) := by decide +kernel
theorem dX4_readPromise_20 : decode cX4_readPromise 20 = .ok (.invokevirtual 97, 3) := by decide +kernel
theorem dX4_readPromise_23 : decode cX4_readPromise 23 = .ok (.ifCond .ne 5, 3) := by decide +kernel
theorem dX4_readPromise_26 : decode cX4_readPromise 26 = .ok (.iconst 0, 1) := by decide +kernel
theorem dX4_readPromise_27 : decode cX4_readPromise 27 = .ok (.ireturn, 1) := by decide +kernel
theorem dX4_readPromise_28 : decode cX4_readPromise 28 = .ok (.aload_n 0, 1) := by decide +kernel
theorem dX4_readPromise_29 : decode cX4_readPromise 29 = .ok (.getfield 83, 3) := by decide +kernel
theorem dX4_readPromise_32 : decode cX4_readPromise 32 = .ok (.istore_n 2, 1) := by decide +kernel
theorem dX4_readPromise_33 : decode cX4_readPromise 33 = .ok (.aload_n 0, 1) := by decide +kernel
theorem dX4_readPromise_34 : decode cX4_readPromise 34 = .ok (.invokevirtual 107, 3) := by decide +kernel
theorem dX4_readPromise_37 : decode cX4_readPromise 37 = .ok (.ifCond .ne 5, 3) := by decide +kernel
theorem dX4_readPromise_40 : decode cX4_readPromise 40 = .ok (.iconst 0, 1) := by decide +kernel
theorem dX4_readPromise_41 : decode cX4_readPromise 41 = .ok (.ireturn, 1) := by decide +kernel
theorem dX4_readPromise_42 : decode cX4_readPromise 42 = .ok (.aload_n 0, 1) := by decide +kernel
theorem dX4_readPromise_43 : decode cX4_readPromise 43 = .ok (.getfield 83, 3) := by decide +kernel
theorem dX4_readPromise_46 : decode cX4_readPromise 46 = .ok (.istore_n 3, 1) := by decide +kernel
theorem dX4_readPromise_47 : decode cX4_readPromise 47 = .ok (.aload_n 0, 1) := by decide +kernel
theorem dX4_readPromise_48 : decode cX4_readPromise 48 = .ok (.invokevirtual 100, 3) := by decide +kernel
theorem dX4_readPromise_51 : decode cX4_readPromise 51 = .ok (.ifCond .ne 5, 3) := by decide +kernel
theorem dX4_readPromise_54 : decode cX4_readPromise 54 = .ok (.iconst 0, 1) := by decide +kernel
theorem dX4_readPromise_55 : decode cX4_readPromise 55 = .ok (.ireturn, 1) := by decide +kernel
theorem dX4_readPromise_56 : decode cX4_readPromise 56 = .ok (.aload_n 0, 1) := by decide +kernel
theorem dX4_readPromise_57 : decode cX4_readPromise 57 = .ok (.getfield 83, 3) := by decide +kernel
theorem dX4_readPromise_60 : decode cX4_readPromise 60 = .ok (.istore 4, 2) := by decide +kernel
theorem dX4_readPromise_62 : decode cX4_readPromise 62 = .ok (.aload_n 0, 1) := by decide +kernel
theorem dX4_readPromise_63 : decode cX4_readPromise 63 = .ok (.invokevirtual 110, 3) := by decide +kernel
theorem dX4_readPromise_66 : decode cX4_readPromise 66 = .ok (.ifCond .ne 5, 3) := by decide +kernel
theorem dX4_readPromise_69 : decode cX4_readPromise 69 = .ok (.iconst 0, 1) := by decide +kernel
theorem dX4_readPromise_70 : decode cX4_readPromise 70 = .ok (.ireturn, 1) := by decide +kernel
theorem dX4_readPromise_71 : decode cX4_readPromise 71 = .ok (.aload_n 0, 1) := by decide +kernel
theorem dX4_readPromise_72 : decode cX4_readPromise 72 = .ok (.getfield 12, 3) := by decide +kernel
theorem dX4_readPromise_75 : decode cX4_readPromise 75 = .ok (.iload_n 1, 1) := by decide +kernel
theorem dX4_readPromise_76 : decode cX4_readPromise 76 = .ok (.iload_n 2, 1) := by decide +kernel
theorem dX4_readPromise_77 : decode cX4_readPromise 77 = .ok (.iload_n 3, 1) := by decide +kernel
theorem dX4_readPromise_78 : decode cX4_readPromise 78 = .ok (.iload 4, 2) := by decide +kernel
theorem dX4_readPromise_80 : decode cX4_readPromise 80 = .ok (.aload_n 0, 1) := by decide +kernel
theorem dX4_readPromise_81 : decode cX4_readPromise 81 = .ok (.getfield 83, 3) := by decide +kernel
theorem dX4_readPromise_84 : decode cX4_readPromise 84 = .ok (.invokevirtual 113, 3) := by decide +kernel
theorem dX4_readPromise_87 : decode cX4_readPromise 87 = .ok (.aload_n 0, 1) := by decide +kernel
theorem dX4_readPromise_88 : decode cX4_readPromise 88 = .ok (.invokevirtual 88, 3) := by decide +kernel
theorem dX4_readPromise_91 : decode cX4_readPromise 91 = .ok (.ireturn, 1) := by decide +kernel
theorem dX4_takePerson_0 : decode cX4_takePerson 0 = .ok (.aload_n 0, 1) := by decide +kernel
theorem dX4_takePerson_1 : decode cX4_takePerson 1 = .ok (.iconst 0, 1) := by decide +kernel
theorem dX4_takePerson_2 : decode cX4_takePerson 2 = .ok (.aload_n 0, 1) := by decide +kernel
theorem dX4_takePerson_3 : decode cX4_takePerson 3 = .ok (.getfield 12, 3) := by decide +kernel
theorem dX4_takePerson_6 : decode cX4_takePerson 6 = .ok (.getfield 86, 3) := by decide +kernel
theorem dX4_takePerson_9 : decode cX4_takePerson 9 = .ok (.iconst 1, 1) := by decide +kernel
theorem dX4_takePerson_10 : decode cX4_takePerson 10 = .ok (.isub, 1) := by decide +kernel
theorem dX4_takePerson_11 : decode cX4_takePerson 11 = .ok (.iconst 3, 1) := by decide +kernel
theorem dX4_takePerson_12 : decode cX4_takePerson 12 = .ok (.invokevirtual 79, 3) := by decide +kernel
theorem dX4_takePerson_15 : decode cX4_takePerson 15 = .ok (.ireturn, 1) := by decide +kernel
theorem dX4_takeOther_0 : decode cX4_takeOther 0 = .ok (.aload_n 0, 1) := by decide +kernel
theorem dX4_takeOther_1 : decode cX4_takeOther 1 = .ok (.getfield 38, 3) := by decide +kernel
theorem dX4_takeOther_4 : decode cX4_takeOther 4 = .ok (.iconst 2, 1) := by decide +kernel
theorem dX4_takeOther_5 : decode cX4_takeOther 5 = .ok (.if_icmp .ne 17, 3) := by decide +kernel
theorem dX4_takeOther_8 : decode cX4_takeOther 8 = .ok (.aload_n 0, 1) := by decide +kernel
theorem dX4_takeOther_9 : decode cX4_takeOther 9 = .ok (.getfield 117, 3) := by decide +kernel
theorem dX4_takeOther_12 : decode cX4_takeOther 12 = .ok (.iload_n 1, 1) := by decide +kernel
theorem dX4_takeOther_13 : decode cX4_takeOther 13 = .ok (.if_icmp .ne 9, 3) := by decide +kernel
theorem dX4_takeOther_16 : decode cX4_takeOther 16 = .ok (.aload_n 0, 1) := by decide +kernel
theorem dX4_takeOther_17 : decode cX4_takeOther 17 = .ok (.iconst 4, 1) := by decide +kernel
theorem dX4_takeOther_18 : decode cX4_takeOther 18 = .ok (.invokevirtual 55, 3) := by decide +kernel
theorem dX4_takeOther_21 : decode cX4_takeOther 21 = .ok (.ireturn, 1) := by decide +kernel
theorem dX4_takeOther_22 : decode cX4_takeOther 22 = .ok (.aload_n 0, 1) := by decide +kernel
theorem dX4_takeOther_23 : decode cX4_takeOther 23 = .ok (.iconst 0, 1) := by decide +kernel
theorem dX4_takeOther_24 : decode cX4_takeOther 24 = .ok (.aload_n 0, 1) := by decide +kernel
theorem dX4_takeOther_25 : decode cX4_takeOther 25 = .ok (.getfield 12, 3) := by decide +kernel
theorem dX4_takeOther_28 : decode cX4_takeOther 28 = .ok (.getfield 86, 3) := by decide +kernel
theorem dX4_takeOther_31 : decode cX4_takeOther 31 = .ok (.iconst 1, 1) := by decide +kernel
theorem dX4_takeOther_32 : decode cX4_takeOther 32 = .ok (.isub, 1) := by decide +kernel
theorem dX4_takeOther_33 : decode cX4_takeOther 33 = .ok (.iconst 3, 1) := by decide +kernel
theorem dX4_takeOther_34 : decode cX4_takeOther 34 = .ok (.invokevirtual 79, 3) := by decide +kernel
theorem dX4_takeOther_37 : decode cX4_takeOther 37 = .ok (.ireturn, 1) := by decide +kernel
theorem dX4_takeDay_0 : decode cX4_takeDay 0 = .ok (.aload_n 0, 1) := by decide +kernel
theorem dX4_takeDay_1 : decode cX4_takeDay 1 = .ok (.iconst 0, 1) := by decide +kernel
theorem dX4_takeDay_2 : decode cX4_takeDay 2 = .ok (.putfield 83, 3) := by decide +kernel
theorem dX4_takeDay_5 : decode cX4_takeDay 5 = .ok (.aload_n 0, 1) := by decide +kernel
theorem dX4_takeDay_6 : decode cX4_takeDay 6 = .ok (.ldc 120, 2) := by decide +kernel
theorem dX4_takeDay_8 : decode cX4_takeDay 8 = .ok (.invokevirtual 47, 3) := by decide +kernel
theorem dX4_takeDay_11 : decode cX4_takeDay 11 = .ok (.ifCond .ne 5, 3) := by decide +kernel
theorem dX4_takeDay_14 : decode cX4_takeDay 14 = .ok (.iconst 1, 1) := by decide +kernel
theorem dX4_takeDay_15 : decode cX4_takeDay 15 = .ok (.ireturn, 1) := by decide +kernel
theorem dX4_takeDay_16 : decode cX4_takeDay 16 = .ok (.aload_n 0, 1) := by decide +kernel
theorem dX4_takeDay_17 : decode cX4_takeDay 17 = .ok (.invokevirtual 35, 3) := by decide +kernel
theorem dX4_takeDay_20 : decode cX4_takeDay 20 = .ok (.aload_n 0, 1) := by decide +kernel
theorem dX4_takeDay_21 : decode cX4_takeDay 21 = .ok (.iconst 0, 1) := by decide +kernel
theorem dX4_takeDay_22 : decode cX4_takeDay 22 = .ok (.bipush 99, 2) := by decide +kernel
theorem dX4_takeDay_24 : decode cX4_takeDay 24 = .ok (.iconst 2, 1) := by decide +kernel
theorem dX4_takeDay_25 : decode cX4_takeDay 25 = .ok (.invokevirtual 79, 3) := by decide +kernel
theorem dX4_takeDay_28 : decode cX4_takeDay 28 = .ok (.ireturn, 1) := by decide +kernel
theorem dX4_takeHour_0 : decode cX4_takeHour 0 = .ok (.aload_n 0, 1) := by decide +kernel
theorem dX4_takeHour_1 : decode cX4_takeHour 1 = .ok (.ldc 122, 2) := by decide +kernel
theorem dX4_takeHour_3 : decode cX4_takeHour 3 = .ok (.invokevirtual 47, 3) := by decide +kernel
theorem dX4_takeHour_6 : decode cX4_takeHour 6 = .ok (.ifCond .ne 9, 3) := by decide +kernel
theorem dX4_takeHour_9 : decode cX4_takeHour 9 = .ok (.aload_n 0, 1) := by decide +kernel
theorem dX4_takeHour_10 : decode cX4_takeHour 10 = .ok (.iconst 1, 1) := by decide +kernel
theorem dX4_takeHour_11 : decode cX4_takeHour 11 = .ok (.invokevirtual 55, 3) := by decide +kernel
theorem dX4_takeHour_14 : decode cX4_takeHour 14 = .ok (.ireturn, 1) := by decide +kernel
theorem dX4_takeHour_15 : decode cX4_takeHour 15 = .ok (.aload_n 0, 1) := by decide +kernel
theorem dX4_takeHour_16 : decode cX4_takeHour 16 = .ok (.invokevirtual 35, 3) := by decide +kernel
theorem dX4_takeHour_19 : decode cX4_takeHour 19 = .ok (.aload_n 0, 1) := by decide +kernel
theorem dX4_takeHour_20 : decode cX4_takeHour 20 = .ok (.iconst 0, 1) := by decide +kernel
theorem dX4_takeHour_21 : decode cX4_takeHour 21 = .ok (.bipush 11, 2) := by decide +kernel
theorem dX4_takeHour_23 : decode cX4_takeHour 23 = .ok (.iconst 2, 1) := by decide +kernel
theorem dX4_takeHour_24 : decode cX4_takeHour 24 = .ok (.invokevirtual 79, 3) := by decide +kernel
theorem dX4_takeHour_27 : decode cX4_takeHour 27 = .ok (.ireturn, 1) := by decide +kernel
theorem dX4_takeLeans_0 : decode cX4_takeLeans 0 = .ok (.aload_n 0, 1) := by decide +kernel
theorem dX4_takeLeans_1 : decode cX4_takeLeans 1 = .ok (.iconst 0, 1) := by decide +kernel
theorem dX4_takeLeans_2 : decode cX4_takeLeans 2 = .ok (.putfield 83, 3) := by decide +kernel
theorem dX4_takeLeans_5 : decode cX4_takeLeans 5 = .ok (.aload_n 0, 1) := by decide +kernel
theorem dX4_takeLeans_6 : decode cX4_takeLeans 6 = .ok (.ldc 124, 2) := by decide +kernel
theorem dX4_takeLeans_8 : decode cX4_takeLeans 8 = .ok (.invokevirtual 47, 3) := by decide +kernel
theorem dX4_takeLeans_11 : decode cX4_takeLeans 11 = .ok (.ifCond .ne 5, 3) := by decide +kernel
theorem dX4_takeLeans_14 : decode cX4_takeLeans 14 = .ok (.iconst 1, 1) := by decide +kernel
theorem dX4_takeLeans_15 : decode cX4_takeLeans 15 = .ok (.ireturn, 1) := by decide +kernel
theorem dX4_takeLeans_16 : decode cX4_takeLeans 16 = .ok (.aload_n 0, 1) := by decide +kernel
theorem dX4_takeLeans_17 : decode cX4_takeLeans 17 = .ok (.invokevirtual 35, 3) := by decide +kernel
theorem dX4_takeLeans_20 : decode cX4_takeLeans 20 = .ok (.iconst 0, 1) := by decide +kernel
theorem dX4_takeLeans_21 : decode cX4_takeLeans 21 = .ok (.istore_n 1, 1) := by decide +kernel
theorem dX4_takeLeans_22 : decode cX4_takeLeans 22 = .ok (.iconst 0, 1) := by decide +kernel
theorem dX4_takeLeans_23 : decode cX4_takeLeans 23 = .ok (.istore_n 2, 1) := by decide +kernel
theorem dX4_takeLeans_24 : decode cX4_takeLeans 24 = .ok (.iload_n 2, 1) := by decide +kernel
theorem dX4_takeLeans_25 : decode cX4_takeLeans 25 = .ok (.bipush 12, 2) := by decide +kernel
theorem dX4_takeLeans_27 : decode cX4_takeLeans 27 = .ok (.if_icmp .gt 109, 3) := by decide +kernel
theorem dX4_takeLeans_30 : decode cX4_takeLeans 30 = .ok (.iload_n 2, 1) := by decide +kernel
theorem dX4_takeLeans_31 : decode cX4_takeLeans 31 = .ok (.ifCond .le 14, 3) := by decide +kernel
theorem dX4_takeLeans_34 : decode cX4_takeLeans 34 = .ok (.aload_n 0, 1) := by decide +kernel
theorem dX4_takeLeans_35 : decode cX4_takeLeans 35 = .ok (.getfield 38, 3) := by decide +kernel
theorem dX4_takeLeans_38 : decode cX4_takeLeans 38 = .ok (.iconst 2, 1) := by decide +kernel
theorem dX4_takeLeans_39 : decode cX4_takeLeans 39 = .ok (.if_icmp .eq 6, 3) := by decide +kernel
theorem dX4_takeLeans_42 : decode cX4_takeLeans 42 = .ok (.goto 94, 3) := by decide +kernel
theorem dX4_takeLeans_45 : decode cX4_takeLeans 45 = .ok (.aload_n 0, 1) := by decide +kernel
theorem dX4_takeLeans_46 : decode cX4_takeLeans 46 = .ok (.getfield 38, 3) := by decide +kernel
theorem dX4_takeLeans_49 : decode cX4_takeLeans 49 = .ok (.iconst 2, 1) := by decide +kernel
theorem dX4_takeLeans_50 : decode cX4_takeLeans 50 = .ok (.if_icmp .ne 28, 3) := by decide +kernel
theorem dX4_takeLeans_53 : decode cX4_takeLeans 53 = .ok (.aload_n 0, 1) := by decide +kernel
theorem dX4_takeLeans_54 : decode cX4_takeLeans 54 = .ok (.getfield 117, 3) := by decide +kernel
theorem dX4_takeLeans_57 : decode cX4_takeLeans 57 = .ok (.ifCond .lt 21, 3) := by decide +kernel
theorem dX4_takeLeans_60 : decode cX4_takeLeans 60 = .ok (.aload_n 0, 1) := by decide +kernel
theorem dX4_takeLeans_61 : decode cX4_takeLeans 61 = .ok (.getfield 117, 3) := by decide +kernel
theorem dX4_takeLeans_64 : decode cX4_takeLeans 64 = .ok (.aload_n 0, 1) := by decide +kernel
theorem dX4_takeLeans_65 : decode cX4_takeLeans 65 = .ok (.getfield 12, 3) := by decide +kernel
theorem dX4_takeLeans_68 : decode cX4_takeLeans 68 = .ok (.getfield 73, 3) := by decide +kernel
theorem dX4_takeLeans_71 : decode cX4_takeLeans 71 = .ok (.if_icmp .ge 7, 3) := by decide +kernel
theorem dX4_takeLeans_74 : decode cX4_takeLeans 74 = .ok (.iconst 1, 1) := by decide +kernel
theorem dX4_takeLeans_75 : decode cX4_takeLeans 75 = .ok (.goto 4, 3) := by decide +kernel
theorem dX4_takeLeans_78 : decode cX4_takeLeans 78 = .ok (.iconst 0, 1) := by decide +kernel
theorem dX4_takeLeans_79 : decode cX4_takeLeans 79 = .ok (.istore_n 3, 1) := by decide +kernel
theorem dX4_takeLeans_80 : decode cX4_takeLeans 80 = .ok (.iload_n 3, 1) := by decide +kernel
theorem dX4_takeLeans_81 : decode cX4_takeLeans 81 = .ok (.ifCond .eq 20, 3) := by decide +kernel
theorem dX4_takeLeans_84 : decode cX4_takeLeans 84 = .ok (.iload_n 1, 1) := by decide +kernel
theorem dX4_takeLeans_85 : decode cX4_takeLeans 85 = .ok (.aload_n 0, 1) := by decide +kernel
theorem dX4_takeLeans_86 : decode cX4_takeLeans 86 = .ok (.getfield 117, 3) := by decide +kernel
theorem dX4_takeLeans_89 : decode cX4_takeLeans 89 = .ok (.ishr, 1) := by decide +kernel
theorem dX4_takeLeans_90 : decode cX4_takeLeans 90 = .ok (.iconst 1, 1) := by decide +kernel
theorem dX4_takeLeans_91 : decode cX4_takeLeans 91 = .ok (.iand, 1) := by decide +kernel
theorem dX4_takeLeans_92 : decode cX4_takeLeans 92 = .ok (.ifCond .eq 9, 3) := by decide +kernel
theorem dX4_takeLeans_95 : decode cX4_takeLeans 95 = .ok (.aload_n 0, 1) := by decide +kernel
theorem dX4_takeLeans_96 : decode cX4_takeLeans 96 = .ok (.iconst 4, 1) := by decide +kernel
theorem dX4_takeLeans_97 : decode cX4_takeLeans 97 = .ok (.invokevirtual 55, 3) := by decide +kernel
theorem dX4_takeLeans_100 : decode cX4_takeLeans 100 = .ok (.ireturn, 1) := by decide +kernel
theorem dX4_takeLeans_101 : decode cX4_takeLeans 101 = .ok (.aload_n 0, 1) := by decide +kernel
theorem dX4_takeLeans_102 : decode cX4_takeLeans 102 = .ok (.iconst 0, 1) := by decide +kernel
theorem dX4_takeLeans_103 : decode cX4_takeLeans 103 = .ok (.aload_n 0, 1) := by decide +kernel
theorem dX4_takeLeans_104 : decode cX4_takeLeans 104 = .ok (.getfield 12, 3) := by decide +kernel
theorem dX4_takeLeans_107 : decode cX4_takeLeans 107 = .ok (.getfield 73, 3) := by decide +kernel
theorem dX4_takeLeans_110 : decode cX4_takeLeans 110 = .ok (.iconst 1, 1) := by decide +kernel
theorem dX4_takeLeans_111 : decode cX4_takeLeans 111 = .ok (.isub, 1) := by decide +kernel
theorem dX4_takeLeans_112 : decode cX4_takeLeans 112 = .ok (.iconst 3, 1) := by decide +kernel
theorem dX4_takeLeans_113 : decode cX4_takeLeans 113 = .ok (.invokevirtual 79, 3) := by decide +kernel
theorem dX4_takeLeans_116 : decode cX4_takeLeans 116 = .ok (.ifCond .ne 5, 3) := by decide +kernel
theorem dX4_takeLeans_119 : decode cX4_takeLeans 119 = .ok (.iconst 0, 1) := by decide +kernel
theorem dX4_takeLeans_120 : decode cX4_takeLeans 120 = .ok (.ireturn, 1) := by decide +kernel
theorem dX4_takeLeans_121 : decode cX4_takeLeans 121 = .ok (.iload_n 1, 1) := by decide +kernel
theorem dX4_takeLeans_122 : decode cX4_takeLeans 122 = .ok (.iconst 1, 1) := by decide +kernel
theorem dX4_takeLeans_123 : decode cX4_takeLeans 123 = .ok (.aload_n 0, 1) := by decide +kernel
theorem dX4_takeLeans_124 : decode cX4_takeLeans 124 = .ok (.getfield 83, 3) := by decide +kernel
theorem dX4_takeLeans_127 : decode cX4_takeLeans 127 = .ok (.ishl, 1) := by decide +kernel
theorem dX4_takeLeans_128 : decode cX4_takeLeans 128 = .ok (.ior, 1) := by decide +kernel
theorem dX4_takeLeans_129 : decode cX4_takeLeans 129 = .ok (.istore_n 1, 1) := by decide +kernel
theorem dX4_takeLeans_130 : decode cX4_takeLeans 130 = .ok (.iinc 2 1, 3) := by decide +kernel
theorem dX4_takeLeans_133 : decode cX4_takeLeans 133 = .ok (.goto (-109), 3) := by decide +kernel
theorem dX4_takeLeans_136 : decode cX4_takeLeans 136 = .ok (.aload_n 0, 1) := by decide +kernel
theorem dX4_takeLeans_137 : decode cX4_takeLeans 137 = .ok (.iload_n 1, 1) := by decide +kernel
theorem dX4_takeLeans_138 : decode cX4_takeLeans 138 = .ok (.putfield 83, 3) := by decide +kernel
theorem dX4_takeLeans_141 : decode cX4_takeLeans 141 = .ok (.iconst 1, 1) := by decide +kernel
theorem dX4_takeLeans_142 : decode cX4_takeLeans 142 = .ok (.ireturn, 1) := by decide +kernel
theorem dX4_takeNumber_0 : decode cX4_takeNumber 0 = .ok (.aload_n 0, 1) := by decide +kernel
theorem dX4_takeNumber_1 : decode cX4_takeNumber 1 = .ok (.getfield 38, 3) := by decide +kernel
theorem dX4_takeNumber_4 : decode cX4_takeNumber 4 = .ok (.iconst 2, 1) := by decide +kernel
theorem dX4_takeNumber_5 : decode cX4_takeNumber 5 = .ok (.if_icmp .eq 9, 3) := by decide +kernel
theorem dX4_takeNumber_8 : decode cX4_takeNumber 8 = .ok (.aload_n 0, 1) := by decide +kernel
theorem dX4_takeNumber_9 : decode cX4_takeNumber 9 = .ok (.iconst 1, 1) := by decide +kernel
theorem dX4_takeNumber_10 : decode cX4_takeNumber 10 = .ok (.invokevirtual 55, 3) := by decide +kernel
theorem dX4_takeNumber_13 : decode cX4_takeNumber 13 = .ok (.ireturn, 1) := by decide +kernel
theorem dX4_takeNumber_14 : decode cX4_takeNumber 14 = .ok (.aload_n 0, 1) := by decide +kernel
theorem dX4_takeNumber_15 : decode cX4_takeNumber 15 = .ok (.getfield 117, 3) := by decide +kernel
theorem dX4_takeNumber_18 : decode cX4_takeNumber 18 = .ok (.iconst (-1), 1) := by decide +kernel
theorem dX4_takeNumber_19 : decode cX4_takeNumber 19 = .ok (.if_icmp .ne 9, 3) := by decide +kernel
theorem dX4_takeNumber_22 : decode cX4_takeNumber 22 = .ok (.aload_n 0, 1) := by decide +kernel
theorem dX4_takeNumber_23 : decode cX4_takeNumber 23 = .ok (.iconst 2, 1) := by decide +kernel
theorem dX4_takeNumber_24 : decode cX4_takeNumber 24 = .ok (.invokevirtual 55, 3) := by decide +kernel
theorem dX4_takeNumber_27 : decode cX4_takeNumber 27 = .ok (.ireturn, 1) := by decide +kernel
theorem dX4_takeNumber_28 : decode cX4_takeNumber 28 = .ok (.aload_n 0, 1) := by decide +kernel
theorem dX4_takeNumber_29 : decode cX4_takeNumber 29 = .ok (.getfield 117, 3) := by decide +kernel
theorem dX4_takeNumber_32 : decode cX4_takeNumber 32 = .ok (.iload_n 1, 1) := by decide +kernel
theorem dX4_takeNumber_33 : decode cX4_takeNumber 33 = .ok (.if_icmp .lt 11, 3) := by decide +kernel
theorem dX4_takeNumber_36 : decode cX4_takeNumber 36 = .ok (.aload_n 0, 1) := by decide +kernel
theorem dX4_takeNumber_37 : decode cX4_takeNumber 37 = .ok (.getfield 117, 3) := by decide +kernel
theorem dX4_takeNumber_40 : decode cX4_takeNumber 40 = .ok (.iload_n 2, 1) := by decide +kernel
theorem dX4_takeNumber_41 : decode cX4_takeNumber 41 = .ok (.if_icmp .le 9, 3) := by decide +kernel
theorem dX4_takeNumber_44 : decode cX4_takeNumber 44 = .ok (.aload_n 0, 1) := by decide +kernel
theorem dX4_takeNumber_45 : decode cX4_takeNumber 45 = .ok (.iload_n 3, 1) := by decide +kernel
theorem dX4_takeNumber_46 : decode cX4_takeNumber 46 = .ok (.invokevirtual 55, 3) := by decide +kernel
theorem dX4_takeNumber_49 : decode cX4_takeNumber 49 = .ok (.ireturn, 1) := by decide +kernel
theorem dX4_takeNumber_50 : decode cX4_takeNumber 50 = .ok (.aload_n 0, 1) := by decide +kernel
theorem dX4_takeNumber_51 : decode cX4_takeNumber 51 = .ok (.aload_n 0, 1) := by decide +kernel
theorem dX4_takeNumber_52 : decode cX4_takeNumber 52 = .ok (.getfield 117, 3) := by decide +kernel
theorem dX4_takeNumber_55 : decode cX4_takeNumber 55 = .ok (.putfield 83, 3) := by decide +kernel
theorem dX4_takeNumber_58 : decode cX4_takeNumber 58 = .ok (.aload_n 0, 1) := by decide +kernel
theorem dX4_takeNumber_59 : decode cX4_takeNumber 59 = .ok (.invokevirtual 35, 3) := by decide +kernel
theorem dX4_takeNumber_62 : decode cX4_takeNumber 62 = .ok (.iconst 1, 1) := by decide +kernel
theorem dX4_takeNumber_63 : decode cX4_takeNumber 63 = .ok (.ireturn, 1) := by decide +kernel
theorem dX4_takeSemicolon_0 : decode cX4_takeSemicolon 0 = .ok (.aload_n 0, 1) := by decide +kernel
theorem dX4_takeSemicolon_1 : decode cX4_takeSemicolon 1 = .ok (.getfield 38, 3) := by decide +kernel
theorem dX4_takeSemicolon_4 : decode cX4_takeSemicolon 4 = .ok (.iconst 3, 1) := by decide +kernel
theorem dX4_takeSemicolon_5 : decode cX4_takeSemicolon 5 = .ok (.if_icmp .eq 9, 3) := by decide +kernel
theorem dX4_takeSemicolon_8 : decode cX4_takeSemicolon 8 = .ok (.aload_n 0, 1) := by decide +kernel
theorem dX4_takeSemicolon_9 : decode cX4_takeSemicolon 9 = .ok (.iconst 1, 1) := by decide +kernel
theorem dX4_takeSemicolon_10 : decode cX4_takeSemicolon 10 = .ok (.invokevirtual 55, 3) := by decide +kernel
theorem dX4_takeSemicolon_13 : decode cX4_takeSemicolon 13 = .ok (.ireturn, 1) := by decide +kernel
theorem dX4_takeSemicolon_14 : decode cX4_takeSemicolon 14 = .ok (.aload_n 0, 1) := by decide +kernel
theorem dX4_takeSemicolon_15 : decode cX4_takeSemicolon 15 = .ok (.invokevirtual 35, 3) := by decide +kernel
theorem dX4_takeSemicolon_18 : decode cX4_takeSemicolon 18 = .ok (.iconst 1, 1) := by decide +kernel
theorem dX4_takeSemicolon_19 : decode cX4_takeSemicolon 19 = .ok (.ireturn, 1) := by decide +kernel
theorem dX4_refuse_0 : decode cX4_refuse 0 = .ok (.aload_n 0, 1) := by decide +kernel
theorem dX4_refuse_1 : decode cX4_refuse 1 = .ok (.iload_n 1, 1) := by decide +kernel
theorem dX4_refuse_2 : decode cX4_refuse 2 = .ok (.putfield 29, 3) := by decide +kernel
theorem dX4_refuse_5 : decode cX4_refuse 5 = .ok (.aload_n 0, 1) := by decide +kernel
theorem dX4_refuse_6 : decode cX4_refuse 6 = .ok (.aload_n 0, 1) := by decide +kernel
theorem dX4_refuse_7 : decode cX4_refuse 7 = .ok (.getfield 126, 3) := by decide +kernel
theorem dX4_refuse_10 : decode cX4_refuse 10 = .ok (.putfield 129, 3) := by decide +kernel
theorem dX4_refuse_13 : decode cX4_refuse 13 = .ok (.iconst 0, 1) := by decide +kernel
theorem dX4_refuse_14 : decode cX4_refuse 14 = .ok (.ireturn, 1) := by decide +kernel
theorem dX4_isWord_0 : decode cX4_isWord 0 = .ok (.aload_n 0, 1) := by decide +kernel
theorem dX4_isWord_1 : decode cX4_isWord 1 = .ok (.getfield 38, 3) := by decide +kernel
theorem dX4_isWord_4 : decode cX4_isWord 4 = .ok (.iconst 1, 1) := by decide +kernel
theorem dX4_isWord_5 : decode cX4_isWord 5 = .ok (.if_icmp .ne 19, 3) := by decide +kernel
theorem dX4_isWord_8 : decode cX4_isWord 8 = .ok (.aload_n 0, 1) := by decide +kernel
theorem dX4_isWord_9 : decode cX4_isWord 9 = .ok (.getfield 32, 3) := by decide +kernel
theorem dX4_isWord_12 : decode cX4_isWord 12 = .ok (.aload_n 0, 1) := by decide +kernel
theorem dX4_isWord_13 : decode cX4_isWord 13 = .ok (.getfield 126, 3) := by decide +kernel
theorem dX4_isWord_16 : decode cX4_isWord 16 = .ok (.isub, 1) := by decide +kernel
theorem dX4_isWord_17 : decode cX4_isWord 17 = .ok (.aload_n 1, 1) := by decide +kernel
theorem dX4_isWord_18 : decode cX4_isWord 18 = .ok (.invokevirtual 132, 3) := by decide +kernel
theorem dX4_isWord_21 : decode cX4_isWord 21 = .ok (.if_icmp .eq 5, 3) := by decide +kernel
theorem dX4_isWord_24 : decode cX4_isWord 24 = .ok (.iconst 0, 1) := by decide +kernel
theorem dX4_isWord_25 : decode cX4_isWord 25 = .ok (.ireturn, 1) := by decide +kernel
theorem dX4_isWord_26 : decode cX4_isWord 26 = .ok (.iconst 0, 1) := by decide +kernel
theorem dX4_isWord_27 : decode cX4_isWord 27 = .ok (.istore_n 2, 1) := by decide +kernel
theorem dX4_isWord_28 : decode cX4_isWord 28 = .ok (.iload_n 2, 1) := by decide +kernel
theorem dX4_isWord_29 : decode cX4_isWord 29 = .ok (.aload_n 1, 1) := by decide +kernel
theorem dX4_isWord_30 : decode cX4_isWord 30 = .ok (.invokevirtual 132, 3) := by decide +kernel
theorem dX4_isWord_33 : decode cX4_isWord 33 = .ok (.if_icmp .ge 30, 3) := by decide +kernel
theorem dX4_isWord_36 : decode cX4_isWord 36 = .ok (.aload_n 0, 1) := by decide +kernel
theorem dX4_isWord_37 : decode cX4_isWord 37 = .ok (.getfield 18, 3) := by decide +kernel
theorem dX4_isWord_40 : decode cX4_isWord 40 = .ok (.aload_n 0, 1) := by decide +kernel
theorem dX4_isWord_41 : decode cX4_isWord 41 = .ok (.getfield 126, 3) := by decide +kernel
theorem dX4_isWord_44 : decode cX4_isWord 44 = .ok (.iload_n 2, 1) := by decide +kernel
theorem dX4_isWord_45 : decode cX4_isWord 45 = .ok (.iadd, 1) := by decide +kernel
theorem dX4_isWord_46 : decode cX4_isWord 46 = .ok (.baload, 1) := by decide +kernel
theorem dX4_isWord_47 : decode cX4_isWord 47 = .ok (.aload_n 1, 1) := by decide +kernel
theorem dX4_isWord_48 : decode cX4_isWord 48 = .ok (.iload_n 2, 1) := by decide +kernel
theorem dX4_isWord_49 : decode cX4_isWord 49 = .ok (.invokevirtual 137, 3) := by decide +kernel
theorem dX4_isWord_52 : decode cX4_isWord 52 = .ok (.if_icmp .eq 5, 3) := by decide +kernel
theorem dX4_isWord_55 : decode cX4_isWord 55 = .ok (.iconst 0, 1) := by decide +kernel
theorem dX4_isWord_56 : decode cX4_isWord 56 = .ok (.ireturn, 1) := by decide +kernel
theorem dX4_isWord_57 : decode cX4_isWord 57 = .ok (.iinc 2 1, 3) := by decide +kernel
theorem dX4_isWord_60 : decode cX4_isWord 60 = .ok (.goto (-32), 3) := by decide +kernel
theorem dX4_isWord_63 : decode cX4_isWord 63 = .ok (.iconst 1, 1) := by decide +kernel
theorem dX4_isWord_64 : decode cX4_isWord 64 = .ok (.ireturn, 1) := by decide +kernel
theorem dX4_advance_0 : decode cX4_advance 0 = .ok (.aload_n 0, 1) := by decide +kernel
theorem dX4_advance_1 : decode cX4_advance 1 = .ok (.aload_n 0, 1) := by decide +kernel
theorem dX4_advance_2 : decode cX4_advance 2 = .ok (.getfield 32, 3) := by decide +kernel
theorem dX4_advance_5 : decode cX4_advance 5 = .ok (.putfield 126, 3) := by decide +kernel
theorem dX4_advance_8 : decode cX4_advance 8 = .ok (.aload_n 0, 1) := by decide +kernel
theorem dX4_advance_9 : decode cX4_advance 9 = .ok (.getfield 126, 3) := by decide +kernel
theorem dX4_advance_12 : decode cX4_advance 12 = .ok (.aload_n 0, 1) := by decide +kernel
theorem dX4_advance_13 : decode cX4_advance 13 = .ok (.getfield 22, 3) := by decide +kernel
theorem dX4_advance_16 : decode cX4_advance 16 = .ok (.if_icmp .ge 44, 3) := by decide +kernel
theorem dX4_advance_19 : decode cX4_advance 19 = .ok (.aload_n 0, 1) := by decide +kernel
theorem dX4_advance_20 : decode cX4_advance 20 = .ok (.getfield 18, 3) := by decide +kernel
theorem dX4_advance_23 : decode cX4_advance 23 = .ok (.aload_n 0, 1) := by decide +kernel
theorem dX4_advance_24 : decode cX4_advance 24 = .ok (.getfield 126, 3) := by decide +kernel
theorem dX4_advance_27 : decode cX4_advance 27 = .ok (.baload, 1) := by decide +kernel
theorem dX4_advance_28 : decode cX4_advance 28 = .ok (.bipush 32, 2) := by decide +kernel
theorem dX4_advance_30 : decode cX4_advance 30 = .ok (.if_icmp .eq 17, 3) := by decide +kernel
theorem dX4_advance_33 : decode cX4_advance 33 = .ok (.aload_n 0, 1) := by decide +kernel
theorem dX4_advance_34 : decode cX4_advance 34 = .ok (.getfield 18, 3) := by decide +kernel
theorem dX4_advance_37 : decode cX4_advance 37 = .ok (.aload_n 0, 1) := by decide +kernel
theorem dX4_advance_38 : decode cX4_advance 38 = .ok (.getfield 126, 3) := by decide +kernel
theorem dX4_advance_41 : decode cX4_advance 41 = .ok (.baload, 1) := by decide +kernel
theorem dX4_advance_42 : decode cX4_advance 42 = .ok (.bipush 10, 2) := by decide +kernel
theorem dX4_advance_44 : decode cX4_advance 44 = .ok (.if_icmp .ne 16, 3) := by decide +kernel
theorem dX4_advance_47 : decode cX4_advance 47 = .ok (.aload_n 0, 1) := by decide +kernel
theorem dX4_advance_48 : decode cX4_advance 48 = .ok (.dup, 1) := by decide +kernel
theorem dX4_advance_49 : decode cX4_advance 49 = .ok (.getfield 126, 3) := by decide +kernel
theorem dX4_advance_52 : decode cX4_advance 52 = .ok (.iconst 1, 1) := by decide +kernel
theorem dX4_advance_53 : decode cX4_advance 53 = .ok (.iadd, 1) := by decide +kernel
theorem dX4_advance_54 : decode cX4_advance 54 = .ok (.putfield 126, 3) := by decide +kernel
theorem dX4_advance_57 : decode cX4_advance 57 = .ok (.goto (-49), 3) := by decide +kernel
theorem dX4_advance_60 : decode cX4_advance 60 = .ok (.aload_n 0, 1) := by decide +kernel
theorem dX4_advance_61 : decode cX4_advance 61 = .ok (.aload_n 0, 1) := by decide +kernel
theorem dX4_advance_62 : decode cX4_advance 62 = .ok (.getfield 126, 3) := by decide +kernel
theorem dX4_advance_65 : decode cX4_advance 65 = .ok (.putfield 32, 3) := by decide +kernel
theorem dX4_advance_68 : decode cX4_advance 68 = .ok (.aload_n 0, 1) := by decide +kernel
theorem dX4_advance_69 : decode cX4_advance 69 = .ok (.iconst 0, 1) := by decide +kernel
theorem dX4_advance_70 : decode cX4_advance 70 = .ok (.putfield 117, 3) := by decide +kernel
theorem dX4_advance_73 : decode cX4_advance 73 = .ok (.aload_n 0, 1) := by decide +kernel
theorem dX4_advance_74 : decode cX4_advance 74 = .ok (.getfield 32, 3) := by decide +kernel
theorem dX4_advance_77 : decode cX4_advance 77 = .ok (.aload_n 0, 1) := by decide +kernel
theorem dX4_advance_78 : decode cX4_advance 78 = .ok (.getfield 22, 3) := by decide +kernel
theorem dX4_advance_81 : decode cX4_advance 81 = .ok (.if_icmp .ge 44, 3) := by decide +kernel
theorem dX4_advance_84 : decode cX4_advance 84 = .ok (.aload_n 0, 1) := by decide +kernel
theorem dX4_advance_85 : decode cX4_advance 85 = .ok (.getfield 18, 3) := by decide +kernel
theorem dX4_advance_88 : decode cX4_advance 88 = .ok (.aload_n 0, 1) := by decide +kernel
theorem dX4_advance_89 : decode cX4_advance 89 = .ok (.getfield 32, 3) := by decide +kernel
theorem dX4_advance_92 : decode cX4_advance 92 = .ok (.baload, 1) := by decide +kernel
theorem dX4_advance_93 : decode cX4_advance 93 = .ok (.bipush 97, 2) := by decide +kernel
theorem dX4_advance_95 : decode cX4_advance 95 = .ok (.if_icmp .lt 30, 3) := by decide +kernel
theorem dX4_advance_98 : decode cX4_advance 98 = .ok (.aload_n 0, 1) := by decide +kernel
theorem dX4_advance_99 : decode cX4_advance 99 = .ok (.getfield 18, 3) := by decide +kernel
theorem dX4_advance_102 : decode cX4_advance 102 = .ok (.aload_n 0, 1) := by decide +kernel
theorem dX4_advance_103 : decode cX4_advance 103 = .ok (.getfield 32, 3) := by decide +kernel
theorem dX4_advance_106 : decode cX4_advance 106 = .ok (.baload, 1) := by decide +kernel
theorem dX4_advance_107 : decode cX4_advance 107 = .ok (.bipush 122, 2) := by decide +kernel
theorem dX4_advance_109 : decode cX4_advance 109 = .ok (.if_icmp .gt 16, 3) := by decide +kernel
theorem dX4_advance_112 : decode cX4_advance 112 = .ok (.aload_n 0, 1) := by decide +kernel
theorem dX4_advance_113 : decode cX4_advance 113 = .ok (.dup, 1) := by decide +kernel
theorem dX4_advance_114 : decode cX4_advance 114 = .ok (.getfield 32, 3) := by decide +kernel
theorem dX4_advance_117 : decode cX4_advance 117 = .ok (.iconst 1, 1) := by decide +kernel
theorem dX4_advance_118 : decode cX4_advance 118 = .ok (.iadd, 1) := by decide +kernel
theorem dX4_advance_119 : decode cX4_advance 119 = .ok (.putfield 32, 3) := by decide +kernel
theorem dX4_advance_122 : decode cX4_advance 122 = .ok (.goto (-49), 3) := by decide +kernel
theorem dX4_advance_125 : decode cX4_advance 125 = .ok (.aload_n 0, 1) := by decide +kernel
theorem dX4_advance_126 : decode cX4_advance 126 = .ok (.getfield 32, 3) := by decide +kernel
theorem dX4_advance_129 : decode cX4_advance 129 = .ok (.aload_n 0, 1) := by decide +kernel
theorem dX4_advance_130 : decode cX4_advance 130 = .ok (.getfield 126, 3) := by decide +kernel
theorem dX4_advance_133 : decode cX4_advance 133 = .ok (.if_icmp .le 9, 3) := by decide +kernel
theorem dX4_advance_136 : decode cX4_advance 136 = .ok (.aload_n 0, 1) := by decide +kernel
theorem dX4_advance_137 : decode cX4_advance 137 = .ok (.iconst 1, 1) := by decide +kernel
theorem dX4_advance_138 : decode cX4_advance 138 = .ok (.putfield 38, 3) := by decide +kernel
theorem dX4_advance_141 : decode cX4_advance 141 = .ok (.return_, 1) := by decide +kernel
theorem dX4_advance_142 : decode cX4_advance 142 = .ok (.aload_n 0, 1) := by decide +kernel
theorem dX4_advance_143 : decode cX4_advance 143 = .ok (.getfield 32, 3) := by decide +kernel
theorem dX4_advance_146 : decode cX4_advance 146 = .ok (.aload_n 0, 1) := by decide +kernel
theorem dX4_advance_147 : decode cX4_advance 147 = .ok (.getfield 22, 3) := by decide +kernel
theorem dX4_advance_150 : decode cX4_advance 150 = .ok (.if_icmp .ge 95, 3) := by decide +kernel
theorem dX4_advance_153 : decode cX4_advance 153 = .ok (.aload_n 0, 1) := by decide +kernel
theorem dX4_advance_154 : decode cX4_advance 154 = .ok (.getfield 18, 3) := by decide +kernel
theorem dX4_advance_157 : decode cX4_advance 157 = .ok (.aload_n 0, 1) := by decide +kernel
theorem dX4_advance_158 : decode cX4_advance 158 = .ok (.getfield 32, 3) := by decide +kernel
theorem dX4_advance_161 : decode cX4_advance 161 = .ok (.baload, 1) := by decide +kernel
theorem dX4_advance_162 : decode cX4_advance 162 = .ok (.bipush 48, 2) := by decide +kernel
theorem dX4_advance_164 : decode cX4_advance 164 = .ok (.if_icmp .lt 81, 3) := by decide +kernel
theorem dX4_advance_167 : decode cX4_advance 167 = .ok (.aload_n 0, 1) := by decide +kernel
theorem dX4_advance_168 : decode cX4_advance 168 = .ok (.getfield 18, 3) := by decide +kernel
theorem dX4_advance_171 : decode cX4_advance 171 = .ok (.aload_n 0, 1) := by decide +kernel
theorem dX4_advance_172 : decode cX4_advance 172 = .ok (.getfield 32, 3) := by decide +kernel
theorem dX4_advance_175 : decode cX4_advance 175 = .ok (.baload, 1) := by decide +kernel
theorem dX4_advance_176 : decode cX4_advance 176 = .ok (.bipush 57, 2) := by decide +kernel
theorem dX4_advance_178 : decode cX4_advance 178 = .ok (.if_icmp .gt 67, 3) := by decide +kernel
theorem dX4_advance_181 : decode cX4_advance 181 = .ok (.aload_n 0, 1) := by decide +kernel
theorem dX4_advance_182 : decode cX4_advance 182 = .ok (.getfield 32, 3) := by decide +kernel
theorem dX4_advance_185 : decode cX4_advance 185 = .ok (.aload_n 0, 1) := by decide +kernel
theorem dX4_advance_186 : decode cX4_advance 186 = .ok (.getfield 126, 3) := by decide +kernel
theorem dX4_advance_189 : decode cX4_advance 189 = .ok (.isub, 1) := by decide +kernel
theorem dX4_advance_190 : decode cX4_advance 190 = .ok (.iconst 3, 1) := by decide +kernel
theorem dX4_advance_191 : decode cX4_advance 191 = .ok (.if_icmp .ge 7, 3) := by decide +kernel
theorem dX4_advance_194 : decode cX4_advance 194 = .ok (.iconst 1, 1) := by decide +kernel
theorem dX4_advance_195 : decode cX4_advance 195 = .ok (.goto 4, 3) := by decide +kernel
theorem dX4_advance_198 : decode cX4_advance 198 = .ok (.iconst 0, 1) := by decide +kernel
theorem dX4_advance_199 : decode cX4_advance 199 = .ok (.istore_n 1, 1) := by decide +kernel
theorem dX4_advance_200 : decode cX4_advance 200 = .ok (.aload_n 0, 1) := by decide +kernel
theorem dX4_advance_201 : decode cX4_advance 201 = .ok (.iload_n 1, 1) := by decide +kernel
theorem dX4_advance_202 : decode cX4_advance 202 = .ok (.ifCond .eq 26, 3) := by decide +kernel
theorem dX4_advance_205 : decode cX4_advance 205 = .ok (.aload_n 0, 1) := by decide +kernel
theorem dX4_advance_206 : decode cX4_advance 206 = .ok (.getfield 117, 3) := by decide +kernel
theorem dX4_advance_209 : decode cX4_advance 209 = .ok (.bipush 10, 2) := by decide +kernel
theorem dX4_advance_211 : decode cX4_advance 211 = .ok (.imul, 1) := by decide +kernel
theorem dX4_advance_212 : decode cX4_advance 212 = .ok (.aload_n 0, 1) := by decide +kernel
theorem dX4_advance_213 : decode cX4_advance 213 = .ok (.getfield 18, 3) := by decide +kernel
theorem dX4_advance_216 : decode cX4_advance 216 = .ok (.aload_n 0, 1) := by decide +kernel
theorem dX4_advance_217 : decode cX4_advance 217 = .ok (.getfield 32, 3) := by decide +kernel
theorem dX4_advance_220 : decode cX4_advance 220 = .ok (.baload, 1) := by decide +kernel
theorem dX4_advance_221 : decode cX4_advance 221 = .ok (.iadd, 1) := by decide +kernel
theorem dX4_advance_222 : decode cX4_advance 222 = .ok (.bipush 48, 2) := by decide +kernel
theorem dX4_advance_224 : decode cX4_advance 224 = .ok (.isub, 1) := by decide +kernel
theorem dX4_advance_225 : decode cX4_advance 225 = .ok (.goto 4, 3) := by decide +kernel
theorem dX4_advance_228 : decode cX4_advance 228 = .ok (.iconst (-1), 1) := by decide +kernel
theorem dX4_advance_229 : decode cX4_advance 229 = .ok (.putfield 117, 3) := by decide +kernel
theorem dX4_advance_232 : decode cX4_advance 232 = .ok (.aload_n 0, 1) := by decide +kernel
theorem dX4_advance_233 : decode cX4_advance 233 = .ok (.dup, 1) := by decide +kernel
theorem dX4_advance_234 : decode cX4_advance 234 = .ok (.getfield 32, 3) := by decide +kernel
theorem dX4_advance_237 : decode cX4_advance 237 = .ok (.iconst 1, 1) := by decide +kernel
theorem dX4_advance_238 : decode cX4_advance 238 = .ok (.iadd, 1) := by decide +kernel
theorem dX4_advance_239 : decode cX4_advance 239 = .ok (.putfield 32, 3) := by decide +kernel
theorem dX4_advance_242 : decode cX4_advance 242 = .ok (.goto (-100), 3) := by decide +kernel
theorem dX4_advance_245 : decode cX4_advance 245 = .ok (.aload_n 0, 1) := by decide +kernel
theorem dX4_advance_246 : decode cX4_advance 246 = .ok (.getfield 32, 3) := by decide +kernel
theorem dX4_advance_249 : decode cX4_advance 249 = .ok (.aload_n 0, 1) := by decide +kernel
theorem dX4_advance_250 : decode cX4_advance 250 = .ok (.getfield 126, 3) := by decide +kernel
theorem dX4_advance_253 : decode cX4_advance 253 = .ok (.if_icmp .le 11, 3) := by decide +kernel
theorem dX4_advance_256 : decode cX4_advance 256 = .ok (.aload_n 0, 1) := by decide +kernel
theorem dX4_advance_257 : decode cX4_advance 257 = .ok (.iconst 2, 1) := by decide +kernel
theorem dX4_advance_258 : decode cX4_advance 258 = .ok (.putfield 38, 3) := by decide +kernel
theorem dX4_advance_261 : decode cX4_advance 261 = .ok (.goto 55, 3) := by decide +kernel
theorem dX4_advance_264 : decode cX4_advance 264 = .ok (.aload_n 0, 1) := by decide +kernel
theorem dX4_advance_265 : decode cX4_advance 265 = .ok (.getfield 32, 3) := by decide +kernel
theorem dX4_advance_268 : decode cX4_advance 268 = .ok (.aload_n 0, 1) := by decide +kernel
theorem dX4_advance_269 : decode cX4_advance 269 = .ok (.getfield 22, 3) := by decide +kernel
theorem dX4_advance_272 : decode cX4_advance 272 = .ok (.if_icmp .ge 39, 3) := by decide +kernel
theorem dX4_advance_275 : decode cX4_advance 275 = .ok (.aload_n 0, 1) := by decide +kernel
theorem dX4_advance_276 : decode cX4_advance 276 = .ok (.aload_n 0, 1) := by decide +kernel
theorem dX4_advance_277 : decode cX4_advance 277 = .ok (.getfield 18, 3) := by decide +kernel
theorem dX4_advance_280 : decode cX4_advance 280 = .ok (.aload_n 0, 1) := by decide +kernel
theorem dX4_advance_281 : decode cX4_advance 281 = .ok (.getfield 32, 3) := by decide +kernel
theorem dX4_advance_284 : decode cX4_advance 284 = .ok (.baload, 1) := by decide +kernel
theorem dX4_advance_285 : decode cX4_advance 285 = .ok (.bipush 59, 2) := by decide +kernel
theorem dX4_advance_287 : decode cX4_advance 287 = .ok (.if_icmp .ne 7, 3) := by decide +kernel
theorem dX4_advance_290 : decode cX4_advance 290 = .ok (.iconst 3, 1) := by decide +kernel
theorem dX4_advance_291 : decode cX4_advance 291 = .ok (.goto 4, 3) := by decide +kernel
theorem dX4_advance_294 : decode cX4_advance 294 = .ok (.iconst 4, 1) := by decide +kernel
theorem dX4_advance_295 : decode cX4_advance 295 = .ok (.putfield 38, 3) := by decide +kernel
theorem dX4_advance_298 : decode cX4_advance 298 = .ok (.aload_n 0, 1) := by decide +kernel
theorem dX4_advance_299 : decode cX4_advance 299 = .ok (.dup, 1) := by decide +kernel
theorem dX4_advance_300 : decode cX4_advance 300 = .ok (.getfield 32, 3) := by decide +kernel
theorem dX4_advance_303 : decode cX4_advance 303 = .ok (.iconst 1, 1) := by decide +kernel
theorem dX4_advance_304 : decode cX4_advance 304 = .ok (.iadd, 1) := by decide +kernel
theorem dX4_advance_305 : decode cX4_advance 305 = .ok (.putfield 32, 3) := by decide +kernel
theorem dX4_advance_308 : decode cX4_advance 308 = .ok (.goto 8, 3) := by decide +kernel
theorem dX4_advance_311 : decode cX4_advance 311 = .ok (.aload_n 0, 1) := by decide +kernel
theorem dX4_advance_312 : decode cX4_advance 312 = .ok (.iconst 0, 1) := by decide +kernel
theorem dX4_advance_313 : decode cX4_advance 313 = .ok (.putfield 38, 3) := by decide +kernel
theorem dX4_advance_316 : decode cX4_advance 316 = .ok (.return_, 1) := by decide +kernel
theorem dX5_init_0 : decode cX5_init 0 = .ok (.aload_n 0, 1) := by decide +kernel
theorem dX5_init_1 : decode cX5_init 1 = .ok (.invokespecial 3, 3) := by decide +kernel
theorem dX5_init_4 : decode cX5_init 4 = .ok (.aload_n 0, 1) := by decide +kernel
theorem dX5_init_5 : decode cX5_init 5 = .ok (.bipush 60, 2) := by decide +kernel
theorem dX5_init_7 : decode cX5_init 7 = .ok (.newarray .int, 2) := by decide +kernel
theorem dX5_init_9 : decode cX5_init 9 = .ok (.putfield 9, 3) := by decide +kernel
theorem dX5_init_12 : decode cX5_init 12 = .ok (.aload_n 0, 1) := by decide +kernel
theorem dX5_init_13 : decode cX5_init 13 = .ok (.bipush 60, 2) := by decide +kernel
theorem dX5_init_15 : decode cX5_init 15 = .ok (.newarray .int, 2) := by decide +kernel
theorem dX5_init_17 : decode cX5_init 17 = .ok (.putfield 15, 3) := by decide +kernel
theorem dX5_init_20 : decode cX5_init 20 = .ok (.aload_n 0, 1) := by decide +kernel
theorem dX5_init_21 : decode cX5_init 21 = .ok (.bipush 60, 2) := by decide +kernel
theorem dX5_init_23 : decode cX5_init 23 = .ok (.newarray .int, 2) := by decide +kernel
theorem dX5_init_25 : decode cX5_init 25 = .ok (.putfield 18, 3) := by decide +kernel
theorem dX5_init_28 : decode cX5_init 28 = .ok (.aload_n 0, 1) := by decide +kernel
theorem dX5_init_29 : decode cX5_init 29 = .ok (.bipush 60, 2) := by decide +kernel
theorem dX5_init_31 : decode cX5_init 31 = .ok (.newarray .int, 2) := by decide +kernel
theorem dX5_init_33 : decode cX5_init 33 = .ok (.putfield 21, 3) := by decide +kernel
theorem dX5_init_36 : decode cX5_init 36 = .ok (.aload_n 0, 1) := by decide +kernel
theorem dX5_init_37 : decode cX5_init 37 = .ok (.bipush 60, 2) := by decide +kernel
theorem dX5_init_39 : decode cX5_init 39 = .ok (.newarray .int, 2) := by decide +kernel
theorem dX5_init_41 : decode cX5_init 41 = .ok (.putfield 24, 3) := by decide +kernel
theorem dX5_init_44 : decode cX5_init 44 = .ok (.aload_n 0, 1) := by decide +kernel
theorem dX5_init_45 : decode cX5_init 45 = .ok (.bipush 13, 2) := by decide +kernel
theorem dX5_init_47 : decode cX5_init 47 = .ok (.newarray .int, 2) := by decide +kernel
theorem dX5_init_49 : decode cX5_init 49 = .ok (.putfield 27, 3) := by decide +kernel
theorem dX5_init_52 : decode cX5_init 52 = .ok (.return_, 1) := by decide +kernel
theorem dX5_add_0 : decode cX5_add 0 = .ok (.aload_n 0, 1) := by decide +kernel
theorem dX5_add_1 : decode cX5_add 1 = .ok (.getfield 9, 3) := by decide +kernel
theorem dX5_add_4 : decode cX5_add 4 = .ok (.aload_n 0, 1) := by decide +kernel
theorem dX5_add_5 : decode cX5_add 5 = .ok (.getfield 30, 3) := by decide +kernel
theorem dX5_add_8 : decode cX5_add 8 = .ok (.iload_n 1, 1) := by decide +kernel
theorem dX5_add_9 : decode cX5_add 9 = .ok (.iastore, 1) := by decide +kernel
theorem dX5_add_10 : decode cX5_add 10 = .ok (.aload_n 0, 1) := by decide +kernel
theorem dX5_add_11 : decode cX5_add 11 = .ok (.getfield 15, 3) := by decide +kernel
theorem dX5_add_14 : decode cX5_add 14 = .ok (.aload_n 0, 1) := by decide +kernel
theorem dX5_add_15 : decode cX5_add 15 = .ok (.getfield 30, 3) := by decide +kernel
theorem dX5_add_18 : decode cX5_add 18 = .ok (.iload_n 2, 1) := by decide +kernel
theorem dX5_add_19 : decode cX5_add 19 = .ok (.iastore, 1) := by decide +kernel
theorem dX5_add_20 : decode cX5_add 20 = .ok (.aload_n 0, 1) := by decide +kernel
theorem dX5_add_21 : decode cX5_add 21 = .ok (.getfield 18, 3) := by decide +kernel
theorem dX5_add_24 : decode cX5_add 24 = .ok (.aload_n 0, 1) := by decide +kernel
theorem dX5_add_25 : decode cX5_add 25 = .ok (.getfield 30, 3) := by decide +kernel
theorem dX5_add_28 : decode cX5_add 28 = .ok (.iload_n 3, 1) := by decide +kernel
theorem dX5_add_29 : decode cX5_add 29 = .ok (.iastore, 1) := by decide +kernel
theorem dX5_add_30 : decode cX5_add 30 = .ok (.aload_n 0, 1) := by decide +kernel
theorem dX5_add_31 : decode cX5_add 31 = .ok (.getfield 21, 3) := by decide +kernel
theorem dX5_add_34 : decode cX5_add 34 = .ok (.aload_n 0, 1) := by decide +kernel
theorem dX5_add_35 : decode cX5_add 35 = .ok (.getfield 30, 3) := by decide +kernel
theorem dX5_add_38 : decode cX5_add 38 = .ok (.iload 4, 2) := by decide +kernel
theorem dX5_add_40 : decode cX5_add 40 = .ok (.iastore, 1) := by decide +kernel
theorem dX5_add_41 : decode cX5_add 41 = .ok (.aload_n 0, 1) := by decide +kernel
theorem dX5_add_42 : decode cX5_add 42 = .ok (.dup, 1) := by decide +kernel
theorem dX5_add_43 : decode cX5_add 43 = .ok (.getfield 30, 3) := by decide +kernel
theorem dX5_add_46 : decode cX5_add 46 = .ok (.iconst 1, 1) := by decide +kernel
theorem dX5_add_47 : decode cX5_add 47 = .ok (.iadd, 1) := by decide +kernel
theorem dX5_add_48 : decode cX5_add 48 = .ok (.putfield 30, 3) := by decide +kernel
theorem dX5_add_51 : decode cX5_add 51 = .ok (.return_, 1) := by decide +kernel
theorem dX5_arrange_0 : decode cX5_arrange 0 = .ok (.iconst 0, 1) := by decide +kernel
theorem dX5_arrange_1 : decode cX5_arrange 1 = .ok (.istore_n 2, 1) := by decide +kernel
theorem dX5_arrange_2 : decode cX5_arrange 2 = .ok (.iconst 0, 1) := by decide +kernel
theorem dX5_arrange_3 : decode cX5_arrange 3 = .ok (.istore_n 3, 1) := by decide +kernel
theorem dX5_arrange_4 : decode cX5_arrange 4 = .ok (.iload_n 3, 1) := by decide +kernel
theorem dX5_arrange_5 : decode cX5_arrange 5 = .ok (.aload_n 1, 1) := by decide +kernel
theorem dX5_arrange_6 : decode cX5_arrange 6 = .ok (.getfield 34, 3) := by decide +kernel
theorem dX5_arrange_9 : decode cX5_arrange 9 = .ok (.if_icmp .ge 61, 3) := by decide +kernel
theorem dX5_arrange_12 : decode cX5_arrange 12 = .ok (.aload_n 0, 1) := by decide +kernel
theorem dX5_arrange_13 : decode cX5_arrange 13 = .ok (.getfield 27, 3) := by decide +kernel
theorem dX5_arrange_16 : decode cX5_arrange 16 = .ok (.iload_n 3, 1) := by decide +kernel
theorem dX5_arrange_17 : decode cX5_arrange 17 = .ok (.iload_n 2, 1) := by decide +kernel
theorem dX5_arrange_18 : decode cX5_arrange 18 = .ok (.iastore, 1) := by decide +kernel
theorem dX5_arrange_19 : decode cX5_arrange 19 = .ok (.iconst 0, 1) := by decide +kernel
theorem dX5_arrange_20 : decode cX5_arrange 20 = .ok (.istore 4, 2) := by decide +kernel
theorem dX5_arrange_22 : decode cX5_arrange 22 = .ok (.iload 4, 2) := by decide +kernel
theorem dX5_arrange_24 : decode cX5_arrange 24 = .ok (.aload_n 0, 1) := by decide +kernel
theorem dX5_arrange_25 : decode cX5_arrange 25 = .ok (.getfield 30, 3) := by decide +kernel
theorem dX5_arrange_28 : decode cX5_arrange 28 = .ok (.if_icmp .ge 36, 3) := by decide +kernel
theorem dX5_arrange_31 : decode cX5_arrange 31 = .ok (.aload_n 0, 1) := by decide +kernel
theorem dX5_arrange_32 : decode cX5_arrange 32 = .ok (.getfield 15, 3) := by decide +kernel
theorem dX5_arrange_35 : decode cX5_arrange 35 = .ok (.iload 4, 2) := by decide +kernel
theorem dX5_arrange_37 : decode cX5_arrange 37 = .ok (.iaload, 1) := by decide +kernel
theorem dX5_arrange_38 : decode cX5_arrange 38 = .ok (.aload_n 1, 1) := by decide +kernel
theorem dX5_arrange_39 : decode cX5_arrange 39 = .ok (.getfield 39, 3) := by decide +kernel
theorem dX5_arrange_42 : decode cX5_arrange 42 = .ok (.iload_n 3, 1) := by decide +kernel
theorem dX5_arrange_43 : decode cX5_arrange 43 = .ok (.iaload, 1) := by decide +kernel
theorem dX5_arrange_44 : decode cX5_arrange 44 = .ok (.if_icmp .ne 14, 3) := by decide +kernel
theorem dX5_arrange_47 : decode cX5_arrange 47 = .ok (.aload_n 0, 1) := by decide +kernel
theorem dX5_arrange_48 : decode cX5_arrange 48 = .ok (.getfield 24, 3) := by decide +kernel
theorem dX5_arrange_51 : decode cX5_arrange 51 = .ok (.iload_n 2, 1) := by decide +kernel
theorem dX5_arrange_52 : decode cX5_arrange 52 = .ok (.iload 4, 2) := by decide +kernel
theorem dX5_arrange_54 : decode cX5_arrange 54 = .ok (.iastore, 1) := by decide +kernel
theorem dX5_arrange_55 : decode cX5_arrange 55 = .ok (.iinc 2 1, 3) := by decide +kernel
theorem dX5_arrange_58 : decode cX5_arrange 58 = .ok (.iinc 4 1, 3) := by decide +kernel
theorem dX5_arrange_61 : decode cX5_arrange 61 = .ok (.goto (-39), 3) := by decide +kernel
theorem dX5_arrange_64 : decode cX5_arrange 64 = .ok (.iinc 3 1, 3) := by decide +kernel
theorem dX5_arrange_67 : decode cX5_arrange 67 = .ok (.goto (-63), 3) := by decide +kernel
theorem dX5_arrange_70 : decode cX5_arrange 70 = .ok (.aload_n 0, 1) := by decide +kernel
theorem dX5_arrange_71 : decode cX5_arrange 71 = .ok (.getfield 27, 3) := by decide +kernel
theorem dX5_arrange_74 : decode cX5_arrange 74 = .ok (.aload_n 1, 1) := by decide +kernel
theorem dX5_arrange_75 : decode cX5_arrange 75 = .ok (.getfield 34, 3) := by decide +kernel
theorem dX5_arrange_78 : decode cX5_arrange 78 = .ok (.iload_n 2, 1) := by decide +kernel
theorem dX5_arrange_79 : decode cX5_arrange 79 = .ok (.iastore, 1) := by decide +kernel
theorem dX5_arrange_80 : decode cX5_arrange 80 = .ok (.return_, 1) := by decide +kernel
theorem dX5_copyFrom_0 : decode cX5_copyFrom 0 = .ok (.aload_n 0, 1) := by decide +kernel
theorem dX5_copyFrom_1 : decode cX5_copyFrom 1 = .ok (.aload_n 1, 1) := by decide +kernel
theorem dX5_copyFrom_2 : decode cX5_copyFrom 2 = .ok (.getfield 30, 3) := by decide +kernel
theorem dX5_copyFrom_5 : decode cX5_copyFrom 5 = .ok (.putfield 30, 3) := by decide +kernel
theorem dX5_copyFrom_8 : decode cX5_copyFrom 8 = .ok (.aload_n 1, 1) := by decide +kernel
theorem dX5_copyFrom_9 : decode cX5_copyFrom 9 = .ok (.getfield 9, 3) := by decide +kernel
theorem dX5_copyFrom_12 : decode cX5_copyFrom 12 = .ok (.iconst 0, 1) := by decide +kernel
theorem dX5_copyFrom_13 : decode cX5_copyFrom 13 = .ok (.aload_n 0, 1) := by decide +kernel
theorem dX5_copyFrom_14 : decode cX5_copyFrom 14 = .ok (.getfield 9, 3) := by decide +kernel
theorem dX5_copyFrom_17 : decode cX5_copyFrom 17 = .ok (.iconst 0, 1) := by decide +kernel
theorem dX5_copyFrom_18 : decode cX5_copyFrom 18 = .ok (.bipush 60, 2) := by decide +kernel
theorem dX5_copyFrom_20 : decode cX5_copyFrom 20 = .ok (.invokestatic 42, 3) := by decide +kernel
theorem dX5_copyFrom_23 : decode cX5_copyFrom 23 = .ok (.aload_n 1, 1) := by decide +kernel
theorem dX5_copyFrom_24 : decode cX5_copyFrom 24 = .ok (.getfield 15, 3) := by decide +kernel
theorem dX5_copyFrom_27 : decode cX5_copyFrom 27 = .ok (.iconst 0, 1) := by decide +kernel
theorem dX5_copyFrom_28 : decode cX5_copyFrom 28 = .ok (.aload_n 0, 1) := by decide +kernel
theorem dX5_copyFrom_29 : decode cX5_copyFrom 29 = .ok (.getfield 15, 3) := by decide +kernel
theorem dX5_copyFrom_32 : decode cX5_copyFrom 32 = .ok (.iconst 0, 1) := by decide +kernel
theorem dX5_copyFrom_33 : decode cX5_copyFrom 33 = .ok (.bipush 60, 2) := by decide +kernel
theorem dX5_copyFrom_35 : decode cX5_copyFrom 35 = .ok (.invokestatic 42, 3) := by decide +kernel
theorem dX5_copyFrom_38 : decode cX5_copyFrom 38 = .ok (.aload_n 1, 1) := by decide +kernel
theorem dX5_copyFrom_39 : decode cX5_copyFrom 39 = .ok (.getfield 18, 3) := by decide +kernel
theorem dX5_copyFrom_42 : decode cX5_copyFrom 42 = .ok (.iconst 0, 1) := by decide +kernel
theorem dX5_copyFrom_43 : decode cX5_copyFrom 43 = .ok (.aload_n 0, 1) := by decide +kernel
theorem dX5_copyFrom_44 : decode cX5_copyFrom 44 = .ok (.getfield 18, 3) := by decide +kernel
theorem dX5_copyFrom_47 : decode cX5_copyFrom 47 = .ok (.iconst 0, 1) := by decide +kernel
theorem dX5_copyFrom_48 : decode cX5_copyFrom 48 = .ok (.bipush 60, 2) := by decide +kernel
theorem dX5_copyFrom_50 : decode cX5_copyFrom 50 = .ok (.invokestatic 42, 3) := by decide +kernel
theorem dX5_copyFrom_53 : decode cX5_copyFrom 53 = .ok (.aload_n 1, 1) := by decide +kernel
theorem dX5_copyFrom_54 : decode cX5_copyFrom 54 = .ok (.getfield 21, 3) := by decide +kernel
theorem dX5_copyFrom_57 : decode cX5_copyFrom 57 = .ok (.iconst 0, 1) := by decide +kernel
theorem dX5_copyFrom_58 : decode cX5_copyFrom 58 = .ok (.aload_n 0, 1) := by decide +kernel
theorem dX5_copyFrom_59 : decode cX5_copyFrom 59 = .ok (.getfield 21, 3) := by decide +kernel
theorem dX5_copyFrom_62 : decode cX5_copyFrom 62 = .ok (.iconst 0, 1) := by decide +kernel
theorem dX5_copyFrom_63 : decode cX5_copyFrom 63 = .ok (.bipush 60, 2) := by decide +kernel
theorem dX5_copyFrom_65 : decode cX5_copyFrom 65 = .ok (.invokestatic 42, 3) := by decide +kernel
theorem dX5_copyFrom_68 : decode cX5_copyFrom 68 = .ok (.return_, 1) := by decide +kernel
theorem dX6_init_0 : decode cX6_init 0 = .ok (.aload_n 0, 1) := by decide +kernel
theorem dX6_init_1 : decode cX6_init 1 = .ok (.invokespecial 3, 3) := by decide +kernel
theorem dX6_init_4 : decode cX6_init 4 = .ok (.aload_n 0, 1) := by decide +kernel
theorem dX6_init_5 : decode cX6_init 5 = .ok (.bipush 72, 2) := by decide +kernel
theorem dX6_init_7 : decode cX6_init 7 = .ok (.newarray .int, 2) := by decide +kernel
theorem dX6_init_9 : decode cX6_init 9 = .ok (.putfield 9, 3) := by decide +kernel
theorem dX6_init_12 : decode cX6_init 12 = .ok (.aload_n 0, 1) := by decide +kernel
theorem dX6_init_13 : decode cX6_init 13 = .ok (.bipush 72, 2) := by decide +kernel
theorem dX6_init_15 : decode cX6_init 15 = .ok (.newarray .int, 2) := by decide +kernel
theorem dX6_init_17 : decode cX6_init 17 = .ok (.putfield 15, 3) := by decide +kernel
theorem dX6_init_20 : decode cX6_init 20 = .ok (.aload_n 0, 1) := by decide +kernel
theorem dX6_init_21 : decode cX6_init 21 = .ok (.bipush 12, 2) := by decide +kernel
theorem dX6_init_23 : decode cX6_init 23 = .ok (.newarray .int, 2) := by decide +kernel
theorem dX6_init_25 : decode cX6_init 25 = .ok (.putfield 18, 3) := by decide +kernel
theorem dX6_init_28 : decode cX6_init 28 = .ok (.aload_n 0, 1) := by decide +kernel
theorem dX6_init_29 : decode cX6_init 29 = .ok (.aload_n 1, 1) := by decide +kernel
theorem dX6_init_30 : decode cX6_init 30 = .ok (.putfield 21, 3) := by decide +kernel
theorem dX6_init_33 : decode cX6_init 33 = .ok (.aload_n 0, 1) := by decide +kernel
theorem dX6_init_34 : decode cX6_init 34 = .ok (.new 25, 3) := by decide +kernel
theorem dX6_init_37 : decode cX6_init 37 = .ok (.dup, 1) := by decide +kernel
theorem dX6_init_38 : decode cX6_init 38 = .ok (.aload_n 1, 1) := by decide +kernel
theorem dX6_init_39 : decode cX6_init 39 = .ok (.invokespecial 27, 3) := by decide +kernel
theorem dX6_init_42 : decode cX6_init 42 = .ok (.putfield 30, 3) := by decide +kernel
theorem dX6_init_45 : decode cX6_init 45 = .ok (.return_, 1) := by decide +kernel
theorem dX6_refresh_0 : decode cX6_refresh 0 = .ok (.aload_n 0, 1) := by decide +kernel
theorem dX6_refresh_1 : decode cX6_refresh 1 = .ok (.getfield 34, 3) := by decide +kernel
theorem dX6_refresh_4 : decode cX6_refresh 4 = .ok (.ifCond .ne 42, 3) := by decide +kernel
theorem dX6_refresh_7 : decode cX6_refresh 7 = .ok (.aload_n 0, 1) := by decide +kernel
theorem dX6_refresh_8 : decode cX6_refresh 8 = .ok (.getfield 15, 3) := by decide +kernel
theorem dX6_refresh_11 : decode cX6_refresh 11 = .ok (.sipush 1200, 3) := by decide +kernel
theorem dX6_refresh_14 : decode cX6_refresh 14 = .ok (.invokestatic 38, 3) := by decide +kernel
theorem dX6_refresh_17 : decode cX6_refresh 17 = .ok (.iconst 0, 1) := by decide +kernel
theorem dX6_refresh_18 : decode cX6_refresh 18 = .ok (.istore_n 2, 1) := by decide +kernel
theorem dX6_refresh_19 : decode cX6_refresh 19 = .ok (.iload_n 2, 1) := by decide +kernel
theorem dX6_refresh_20 : decode cX6_refresh 20 = .ok (.aload_n 0, 1) := by decide +kernel
theorem dX6_refresh_21 : decode cX6_refresh 21 = .ok (.getfield 21, 3) := by decide +kernel
theorem dX6_refresh_24 : decode cX6_refresh 24 = .ok (.getfield 44, 3) := by decide +kernel
theorem dX6_refresh_27 : decode cX6_refresh 27 = .ok (.if_icmp .ge 14, 3) := by decide +kernel
theorem dX6_refresh_30 : decode cX6_refresh 30 = .ok (.aload_n 0, 1) := by decide +kernel
theorem dX6_refresh_31 : decode cX6_refresh 31 = .ok (.iload_n 2, 1) := by decide +kernel
theorem dX6_refresh_32 : decode cX6_refresh 32 = .ok (.invokevirtual 50, 3) := by decide +kernel
theorem dX6_refresh_35 : decode cX6_refresh 35 = .ok (.iinc 2 1, 3) := by decide +kernel
theorem dX6_refresh_38 : decode cX6_refresh 38 = .ok (.goto (-19), 3) := by decide +kernel
theorem dX6_refresh_41 : decode cX6_refresh 41 = .ok (.aload_n 0, 1) := by decide +kernel
theorem dX6_refresh_42 : decode cX6_refresh 42 = .ok (.iconst 1, 1) := by decide +kernel
theorem dX6_refresh_43 : decode cX6_refresh 43 = .ok (.putfield 34, 3) := by decide +kernel
theorem dX6_refresh_46 : decode cX6_refresh 46 = .ok (.aload_n 0, 1) := by decide +kernel
theorem dX6_refresh_47 : decode cX6_refresh 47 = .ok (.getfield 54, 3) := by decide +kernel
theorem dX6_refresh_50 : decode cX6_refresh 50 = .ok (.ifCond .ne 23, 3) := by decide +kernel
theorem dX6_refresh_53 : decode cX6_refresh 53 = .ok (.aload_n 0, 1) := by decide +kernel
theorem dX6_refresh_54 : decode cX6_refresh 54 = .ok (.getfield 9, 3) := by decide +kernel
theorem dX6_refresh_57 : decode cX6_refresh 57 = .ok (.sipush 1200, 3) := by decide +kernel
theorem dX6_refresh_60 : decode cX6_refresh 60 = .ok (.invokestatic 38, 3) := by decide +kernel
theorem dX6_refresh_63 : decode cX6_refresh 63 = .ok (.aload_n 0, 1) := by decide +kernel
theorem dX6_refresh_64 : decode cX6_refresh 64 = .ok (.aload_n 1, 1) := by decide +kernel
theorem dX6_refresh_65 : decode cX6_refresh 65 = .ok (.invokevirtual 57, 3) := by decide +kernel
theorem dX6_refresh_68 : decode cX6_refresh 68 = .ok (.aload_n 0, 1) := by decide +kernel
theorem dX6_refresh_69 : decode cX6_refresh 69 = .ok (.iconst 1, 1) := by decide +kernel
theorem dX6_refresh_70 : decode cX6_refresh 70 = .ok (.putfield 54, 3) := by decide +kernel
theorem dX6_refresh_73 : decode cX6_refresh 73 = .ok (.return_, 1) := by decide +kernel
theorem dX6_truthOf_0 : decode cX6_truthOf 0 = .ok (.iload_n 2, 1) := by decide +kernel
theorem dX6_truthOf_1 : decode cX6_truthOf 1 = .ok (.bipush 6, 2) := by decide +kernel
theorem dX6_truthOf_3 : decode cX6_truthOf 3 = .ok (.imul, 1) := by decide +kernel
theorem dX6_truthOf_4 : decode cX6_truthOf 4 = .ok (.iload_n 1, 1) := by decide +kernel
theorem dX6_truthOf_5 : decode cX6_truthOf 5 = .ok (.iadd, 1) := by decide +kernel
theorem dX6_truthOf_6 : decode cX6_truthOf 6 = .ok (.istore 4, 2) := by decide +kernel
theorem dX6_truthOf_8 : decode cX6_truthOf 8 = .ok (.aload_n 0, 1) := by decide +kernel
theorem dX6_truthOf_9 : decode cX6_truthOf 9 = .ok (.getfield 9, 3) := by decide +kernel
theorem dX6_truthOf_12 : decode cX6_truthOf 12 = .ok (.iload 4, 2) := by decide +kernel
theorem dX6_truthOf_14 : decode cX6_truthOf 14 = .ok (.iaload, 1) := by decide +kernel
theorem dX6_truthOf_15 : decode cX6_truthOf 15 = .ok (.iload_n 3, 1) := by decide +kernel
theorem dX6_truthOf_16 : decode cX6_truthOf 16 = .ok (.if_icmp .gt 5, 3) := by decide +kernel
theorem dX6_truthOf_19 : decode cX6_truthOf 19 = .ok (.iconst 2, 1) := by decide +kernel
theorem dX6_truthOf_20 : decode cX6_truthOf 20 = .ok (.ireturn, 1) := by decide +kernel
theorem dX6_truthOf_21 : decode cX6_truthOf 21 = .ok (.aload_n 0, 1) := by decide +kernel
theorem dX6_truthOf_22 : decode cX6_truthOf 22 = .ok (.getfield 15, 3) := by decide +kernel
theorem dX6_truthOf_25 : decode cX6_truthOf 25 = .ok (.iload 4, 2) := by decide +kernel
theorem dX6_truthOf_27 : decode cX6_truthOf 27 = .ok (.iaload, 1) := by decide +kernel
theorem dX6_truthOf_28 : decode cX6_truthOf 28 = .ok (.iload_n 3, 1) := by decide +kernel
theorem dX6_truthOf_29 : decode cX6_truthOf 29 = .ok (.if_icmp .gt 7, 3) := by decide +kernel
theorem dX6_truthOf_32 : decode cX6_truthOf 32 = .ok (.iconst 1, 1) := by decide +kernel
theorem dX6_truthOf_33 : decode cX6_truthOf 33 = .ok (.goto 4, 3) := by decide +kernel
theorem dX6_truthOf_36 : decode cX6_truthOf 36 = .ok (.iconst 0, 1) := by decide +kernel
theorem dX6_truthOf_37 : decode cX6_truthOf 37 = .ok (.ireturn, 1) := by decide +kernel
theorem dX6_leastWhoMay_0 : decode cX6_leastWhoMay 0 = .ok (.iconst 0, 1) := by decide +kernel
theorem dX6_leastWhoMay_1 : decode cX6_leastWhoMay 1 = .ok (.istore_n 3, 1) := by decide +kernel
theorem dX6_leastWhoMay_2 : decode cX6_leastWhoMay 2 = .ok (.iload_n 3, 1) := by decide +kernel
theorem dX6_leastWhoMay_3 : decode cX6_leastWhoMay 3 = .ok (.aload_n 0, 1) := by decide +kernel
theorem dX6_leastWhoMay_4 : decode cX6_leastWhoMay 4 = .ok (.getfield 21, 3) := by decide +kernel
theorem dX6_leastWhoMay_7 : decode cX6_leastWhoMay 7 = .ok (.getfield 61, 3) := by decide +kernel
theorem dX6_leastWhoMay_10 : decode cX6_leastWhoMay 10 = .ok (.if_icmp .ge 26, 3) := by decide +kernel
theorem dX6_leastWhoMay_13 : decode cX6_leastWhoMay 13 = .ok (.aload_n 0, 1) := by decide +kernel
theorem dX6_leastWhoMay_14 : decode cX6_leastWhoMay 14 = .ok (.getfield 15, 3) := by decide +kernel
theorem dX6_leastWhoMay_17 : decode cX6_leastWhoMay 17 = .ok (.iload_n 1, 1) := by decide +kernel
theorem dX6_leastWhoMay_18 : decode cX6_leastWhoMay 18 = .ok (.bipush 6, 2) := by decide +kernel
theorem dX6_leastWhoMay_20 : decode cX6_leastWhoMay 20 = .ok (.imul, 1) := by decide +kernel
theorem dX6_leastWhoMay_21 : decode cX6_leastWhoMay 21 = .ok (.iload_n 3, 1) := by decide +kernel
theorem dX6_leastWhoMay_22 : decode cX6_leastWhoMay 22 = .ok (.iadd, 1) := by decide +kernel
theorem dX6_leastWhoMay_23 : decode cX6_leastWhoMay 23 = .ok (.iaload, 1) := by decide +kernel
theorem dX6_leastWhoMay_24 : decode cX6_leastWhoMay 24 = .ok (.iload_n 2, 1) := by decide +kernel
theorem dX6_leastWhoMay_25 : decode cX6_leastWhoMay 25 = .ok (.if_icmp .gt 5, 3) := by decide +kernel
theorem dX6_leastWhoMay_28 : decode cX6_leastWhoMay 28 = .ok (.iload_n 3, 1) := by decide +kernel
theorem dX6_leastWhoMay_29 : decode cX6_leastWhoMay 29 = .ok (.ireturn, 1) := by decide +kernel
theorem dX6_leastWhoMay_30 : decode cX6_leastWhoMay 30 = .ok (.iinc 3 1, 3) := by decide +kernel
theorem dX6_leastWhoMay_33 : decode cX6_leastWhoMay 33 = .ok (.goto (-31), 3) := by decide +kernel
theorem dX6_leastWhoMay_36 : decode cX6_leastWhoMay 36 = .ok (.iconst (-1), 1) := by decide +kernel
theorem dX6_leastWhoMay_37 : decode cX6_leastWhoMay 37 = .ok (.ireturn, 1) := by decide +kernel
theorem dX6_findWhoMay_0 : decode cX6_findWhoMay 0 = .ok (.iconst 1, 1) := by decide +kernel
theorem dX6_findWhoMay_1 : decode cX6_findWhoMay 1 = .ok (.aload_n 0, 1) := by decide +kernel
theorem dX6_findWhoMay_2 : decode cX6_findWhoMay 2 = .ok (.getfield 21, 3) := by decide +kernel
theorem dX6_findWhoMay_5 : decode cX6_findWhoMay 5 = .ok (.getfield 64, 3) := by decide +kernel
theorem dX6_findWhoMay_8 : decode cX6_findWhoMay 8 = .ok (.iload_n 1, 1) := by decide +kernel
theorem dX6_findWhoMay_9 : decode cX6_findWhoMay 9 = .ok (.iaload, 1) := by decide +kernel
theorem dX6_findWhoMay_10 : decode cX6_findWhoMay 10 = .ok (.ishl, 1) := by decide +kernel
theorem dX6_findWhoMay_11 : decode cX6_findWhoMay 11 = .ok (.iconst 1, 1) := by decide +kernel
theorem dX6_findWhoMay_12 : decode cX6_findWhoMay 12 = .ok (.aload_n 0, 1) := by decide +kernel
theorem dX6_findWhoMay_13 : decode cX6_findWhoMay 13 = .ok (.getfield 21, 3) := by decide +kernel
theorem dX6_findWhoMay_16 : decode cX6_findWhoMay 16 = .ok (.getfield 67, 3) := by decide +kernel
theorem dX6_findWhoMay_19 : decode cX6_findWhoMay 19 = .ok (.iload_n 1, 1) := by decide +kernel
theorem dX6_findWhoMay_20 : decode cX6_findWhoMay 20 = .ok (.iaload, 1) := by decide +kernel
theorem dX6_findWhoMay_21 : decode cX6_findWhoMay 21 = .ok (.ishl, 1) := by decide +kernel
theorem dX6_findWhoMay_22 : decode cX6_findWhoMay 22 = .ok (.ior, 1) := by decide +kernel
theorem dX6_findWhoMay_23 : decode cX6_findWhoMay 23 = .ok (.istore_n 2, 1) := by decide +kernel
theorem dX6_findWhoMay_24 : decode cX6_findWhoMay 24 = .ok (.aload_n 0, 1) := by decide +kernel
theorem dX6_findWhoMay_25 : decode cX6_findWhoMay 25 = .ok (.getfield 21, 3) := by decide +kernel
theorem dX6_findWhoMay_28 : decode cX6_findWhoMay 28 = .ok (.getfield 70, 3) := by decide +kernel
theorem dX6_findWhoMay_31 : decode cX6_findWhoMay 31 = .ok (.iload_n 1, 1) := by decide +kernel
theorem dX6_findWhoMay_32 : decode cX6_findWhoMay 32 = .ok (.iaload, 1) := by decide +kernel
theorem dX6_findWhoMay_33 : decode cX6_findWhoMay 33 = .ok (.bipush 12, 2) := by decide +kernel
theorem dX6_findWhoMay_35 : decode cX6_findWhoMay 35 = .ok (.imul, 1) := by decide +kernel
theorem dX6_findWhoMay_36 : decode cX6_findWhoMay 36 = .ok (.aload_n 0, 1) := by decide +kernel
theorem dX6_findWhoMay_37 : decode cX6_findWhoMay 37 = .ok (.getfield 21, 3) := by decide +kernel
theorem dX6_findWhoMay_40 : decode cX6_findWhoMay 40 = .ok (.getfield 73, 3) := by decide +kernel
theorem dX6_findWhoMay_43 : decode cX6_findWhoMay 43 = .ok (.iload_n 1, 1) := by decide +kernel
theorem dX6_findWhoMay_44 : decode cX6_findWhoMay 44 = .ok (.iaload, 1) := by decide +kernel
theorem dX6_findWhoMay_45 : decode cX6_findWhoMay 45 = .ok (.iadd, 1) := by decide +kernel
theorem dX6_findWhoMay_46 : decode cX6_findWhoMay 46 = .ok (.istore_n 3, 1) := by decide +kernel
theorem dX6_findWhoMay_47 : decode cX6_findWhoMay 47 = .ok (.aload_n 0, 1) := by decide +kernel
theorem dX6_findWhoMay_48 : decode cX6_findWhoMay 48 = .ok (.getfield 15, 3) := by decide +kernel
theorem dX6_findWhoMay_51 : decode cX6_findWhoMay 51 = .ok (.iload_n 1, 1) := by decide +kernel
theorem dX6_findWhoMay_52 : decode cX6_findWhoMay 52 = .ok (.iload_n 2, 1) := by decide +kernel
theorem dX6_findWhoMay_53 : decode cX6_findWhoMay 53 = .ok (.iload_n 3, 1) := by decide +kernel
theorem dX6_findWhoMay_54 : decode cX6_findWhoMay 54 = .ok (.invokestatic 76, 3) := by decide +kernel
theorem dX6_findWhoMay_57 : decode cX6_findWhoMay 57 = .ok (.sipush 1200, 3) := by decide +kernel
theorem dX6_findWhoMay_60 : decode cX6_findWhoMay 60 = .ok (.iload_n 3, 1) := by decide +kernel
theorem dX6_findWhoMay_61 : decode cX6_findWhoMay 61 = .ok (.bipush 72, 2) := by decide +kernel
theorem dX6_findWhoMay_63 : decode cX6_findWhoMay 63 = .ok (.iadd, 1) := by decide +kernel
theorem dX6_findWhoMay_64 : decode cX6_findWhoMay 64 = .ok (.invokestatic 80, 3) := by decide +kernel
theorem dX6_findWhoMay_67 : decode cX6_findWhoMay 67 = .ok (.istore 4, 2) := by decide +kernel
theorem dX6_findWhoMay_69 : decode cX6_findWhoMay 69 = .ok (.iload_n 3, 1) := by decide +kernel
theorem dX6_findWhoMay_70 : decode cX6_findWhoMay 70 = .ok (.istore 5, 2) := by decide +kernel
theorem dX6_findWhoMay_72 : decode cX6_findWhoMay 72 = .ok (.iload 5, 2) := by decide +kernel
theorem dX6_findWhoMay_74 : decode cX6_findWhoMay 74 = .ok (.iload 4, 2) := by decide +kernel
theorem dX6_findWhoMay_76 : decode cX6_findWhoMay 76 = .ok (.if_icmp .ge 98, 3) := by decide +kernel
theorem dX6_findWhoMay_79 : decode cX6_findWhoMay 79 = .ok (.iload 5, 2) := by decide +kernel
theorem dX6_findWhoMay_81 : decode cX6_findWhoMay 81 = .ok (.bipush 12, 2) := by decide +kernel
theorem dX6_findWhoMay_83 : decode cX6_findWhoMay 83 = .ok (.irem, 1) := by decide +kernel
theorem dX6_findWhoMay_84 : decode cX6_findWhoMay 84 = .ok (.istore 6, 2) := by decide +kernel
theorem dX6_findWhoMay_86 : decode cX6_findWhoMay 86 = .ok (.aload_n 0, 1) := by decide +kernel
theorem dX6_findWhoMay_87 : decode cX6_findWhoMay 87 = .ok (.getfield 21, 3) := by decide +kernel
theorem dX6_findWhoMay_90 : decode cX6_findWhoMay 90 = .ok (.getfield 86, 3) := by decide +kernel
theorem dX6_findWhoMay_93 : decode cX6_findWhoMay 93 = .ok (.iload 6, 2) := by decide +kernel
theorem dX6_findWhoMay_95 : decode cX6_findWhoMay 95 = .ok (.iaload, 1) := by decide +kernel
theorem dX6_findWhoMay_96 : decode cX6_findWhoMay 96 = .ok (.istore 7, 2) := by decide +kernel
theorem dX6_findWhoMay_98 : decode cX6_findWhoMay 98 = .ok (.iload 7, 2) := by decide +kernel
theorem dX6_findWhoMay_100 : decode cX6_findWhoMay 100 = .ok (.aload_n 0, 1) := by decide +kernel
theorem dX6_findWhoMay_101 : decode cX6_findWhoMay 101 = .ok (.getfield 21, 3) := by decide +kernel
theorem dX6_findWhoMay_104 : decode cX6_findWhoMay 104 = .ok (.getfield 86, 3) := by decide +kernel
theorem dX6_findWhoMay_107 : decode cX6_findWhoMay 107 = .ok (.iload 6, 2) := by decide +kernel
theorem dX6_findWhoMay_109 : decode cX6_findWhoMay 109 = .ok (.iconst 1, 1) := by decide +kernel
theorem dX6_findWhoMay_110 : decode cX6_findWhoMay 110 = .ok (.iadd, 1) := by decide +kernel
theorem dX6_findWhoMay_111 : decode cX6_findWhoMay 111 = .ok (.iaload, 1) := by decide +kernel
theorem dX6_findWhoMay_112 : decode cX6_findWhoMay 112 = .ok (.if_icmp .ge 56, 3) := by decide +kernel
theorem dX6_findWhoMay_115 : decode cX6_findWhoMay 115 = .ok (.aload_n 0, 1) := by decide +kernel
theorem dX6_findWhoMay_116 : decode cX6_findWhoMay 116 = .ok (.getfield 21, 3) := by decide +kernel
theorem dX6_findWhoMay_119 : decode cX6_findWhoMay 119 = .ok (.aload_n 0, 1) := by decide +kernel
theorem dX6_findWhoMay_120 : decode cX6_findWhoMay 120 = .ok (.getfield 21, 3) := by decide +kernel
theorem dX6_findWhoMay_123 : decode cX6_findWhoMay 123 = .ok (.getfield 89, 3) := by decide +kernel
theorem dX6_findWhoMay_126 : decode cX6_findWhoMay 126 = .ok (.iload 7, 2) := by decide +kernel
theorem dX6_findWhoMay_128 : decode cX6_findWhoMay 128 = .ok (.iaload, 1) := by decide +kernel
theorem dX6_findWhoMay_129 : decode cX6_findWhoMay 129 = .ok (.invokevirtual 92, 3) := by decide +kernel
theorem dX6_findWhoMay_132 : decode cX6_findWhoMay 132 = .ok (.istore 8, 2) := by decide +kernel
theorem dX6_findWhoMay_134 : decode cX6_findWhoMay 134 = .ok (.iload_n 2, 1) := by decide +kernel
theorem dX6_findWhoMay_135 : decode cX6_findWhoMay 135 = .ok (.iload 8, 2) := by decide +kernel
theorem dX6_findWhoMay_137 : decode cX6_findWhoMay 137 = .ok (.iand, 1) := by decide +kernel
theorem dX6_findWhoMay_138 : decode cX6_findWhoMay 138 = .ok (.ifCond .eq 24, 3) := by decide +kernel
theorem dX6_findWhoMay_141 : decode cX6_findWhoMay 141 = .ok (.aload_n 0, 1) := by decide +kernel
theorem dX6_findWhoMay_142 : decode cX6_findWhoMay 142 = .ok (.getfield 15, 3) := by decide +kernel
theorem dX6_findWhoMay_145 : decode cX6_findWhoMay 145 = .ok (.iload_n 1, 1) := by decide +kernel
theorem dX6_findWhoMay_146 : decode cX6_findWhoMay 146 = .ok (.iload 8, 2) := by decide +kernel
theorem dX6_findWhoMay_148 : decode cX6_findWhoMay 148 = .ok (.iload_n 2, 1) := by decide +kernel
theorem dX6_findWhoMay_149 : decode cX6_findWhoMay 149 = .ok (.iconst (-1), 1) := by decide +kernel
theorem dX6_findWhoMay_150 : decode cX6_findWhoMay 150 = .ok (.ixor, 1) := by decide +kernel
theorem dX6_findWhoMay_151 : decode cX6_findWhoMay 151 = .ok (.iand, 1) := by decide +kernel
theorem dX6_findWhoMay_152 : decode cX6_findWhoMay 152 = .ok (.iload 5, 2) := by decide +kernel
theorem dX6_findWhoMay_154 : decode cX6_findWhoMay 154 = .ok (.invokestatic 76, 3) := by decide +kernel
theorem dX6_findWhoMay_157 : decode cX6_findWhoMay 157 = .ok (.iload_n 2, 1) := by decide +kernel
theorem dX6_findWhoMay_158 : decode cX6_findWhoMay 158 = .ok (.iload 8, 2) := by decide +kernel
theorem dX6_findWhoMay_160 : decode cX6_findWhoMay 160 = .ok (.ior, 1) := by decide +kernel
theorem dX6_findWhoMay_161 : decode cX6_findWhoMay 161 = .ok (.istore_n 2, 1) := by decide +kernel
theorem dX6_findWhoMay_162 : decode cX6_findWhoMay 162 = .ok (.iinc 7 1, 3) := by decide +kernel
theorem dX6_findWhoMay_165 : decode cX6_findWhoMay 165 = .ok (.goto (-67), 3) := by decide +kernel
theorem dX6_findWhoMay_168 : decode cX6_findWhoMay 168 = .ok (.iinc 5 1, 3) := by decide +kernel
theorem dX6_findWhoMay_171 : decode cX6_findWhoMay 171 = .ok (.goto (-99), 3) := by decide +kernel
theorem dX6_findWhoMay_174 : decode cX6_findWhoMay 174 = .ok (.return_, 1) := by decide +kernel
theorem dX6_findWhoHeard_0 : decode cX6_findWhoHeard 0 = .ok (.aload_n 0, 1) := by decide +kernel
theorem dX6_findWhoHeard_1 : decode cX6_findWhoHeard 1 = .ok (.getfield 30, 3) := by decide +kernel
theorem dX6_findWhoHeard_4 : decode cX6_findWhoHeard 4 = .ok (.invokevirtual 96, 3) := by decide +kernel
theorem dX6_findWhoHeard_7 : decode cX6_findWhoHeard 7 = .ok (.aload_n 1, 1) := by decide +kernel
theorem dX6_findWhoHeard_8 : decode cX6_findWhoHeard 8 = .ok (.aload_n 0, 1) := by decide +kernel
theorem dX6_findWhoHeard_9 : decode cX6_findWhoHeard 9 = .ok (.getfield 21, 3) := by decide +kernel
theorem dX6_findWhoHeard_12 : decode cX6_findWhoHeard 12 = .ok (.invokevirtual 99, 3) := by decide +kernel
theorem dX6_findWhoHeard_15 : decode cX6_findWhoHeard 15 = .ok (.aload_n 0, 1) := by decide +kernel
theorem dX6_findWhoHeard_16 : decode cX6_findWhoHeard 16 = .ok (.getfield 18, 3) := by decide +kernel
theorem dX6_findWhoHeard_19 : decode cX6_findWhoHeard 19 = .ok (.iconst 0, 1) := by decide +kernel
theorem dX6_findWhoHeard_20 : decode cX6_findWhoHeard 20 = .ok (.invokestatic 38, 3) := by decide +kernel
theorem dX6_findWhoHeard_23 : decode cX6_findWhoHeard 23 = .ok (.iconst 1, 1) := by decide +kernel
theorem dX6_findWhoHeard_24 : decode cX6_findWhoHeard 24 = .ok (.aload_n 0, 1) := by decide +kernel
theorem dX6_findWhoHeard_25 : decode cX6_findWhoHeard 25 = .ok (.getfield 21, 3) := by decide +kernel
theorem dX6_findWhoHeard_28 : decode cX6_findWhoHeard 28 = .ok (.getfield 44, 3) := by decide +kernel
theorem dX6_findWhoHeard_31 : decode cX6_findWhoHeard 31 = .ok (.ishl, 1) := by decide +kernel
theorem dX6_findWhoHeard_32 : decode cX6_findWhoHeard 32 = .ok (.iconst 1, 1) := by decide +kernel
theorem dX6_findWhoHeard_33 : decode cX6_findWhoHeard 33 = .ok (.isub, 1) := by decide +kernel
theorem dX6_findWhoHeard_34 : decode cX6_findWhoHeard 34 = .ok (.istore_n 2, 1) := by decide +kernel
theorem dX6_findWhoHeard_35 : decode cX6_findWhoHeard 35 = .ok (.iconst 0, 1) := by decide +kernel
theorem dX6_findWhoHeard_36 : decode cX6_findWhoHeard 36 = .ok (.istore_n 3, 1) := by decide +kernel
theorem dX6_findWhoHeard_37 : decode cX6_findWhoHeard 37 = .ok (.iload_n 3, 1) := by decide +kernel
theorem dX6_findWhoHeard_38 : decode cX6_findWhoHeard 38 = .ok (.bipush 100, 2) := by decide +kernel
theorem dX6_findWhoHeard_40 : decode cX6_findWhoHeard 40 = .ok (.if_icmp .ge 64, 3) := by decide +kernel
theorem dX6_findWhoHeard_43 : decode cX6_findWhoHeard 43 = .ok (.aload_n 0, 1) := by decide +kernel
theorem dX6_findWhoHeard_44 : decode cX6_findWhoHeard 44 = .ok (.getfield 30, 3) := by decide +kernel
theorem dX6_findWhoHeard_47 : decode cX6_findWhoHeard 47 = .ok (.getfield 104, 3) := by decide +kernel
theorem dX6_findWhoHeard_50 : decode cX6_findWhoHeard 50 = .ok (.iload_n 2, 1) := by decide +kernel
theorem dX6_findWhoHeard_51 : decode cX6_findWhoHeard 51 = .ok (.if_icmp .eq 53, 3) := by decide +kernel
theorem dX6_findWhoHeard_54 : decode cX6_findWhoHeard 54 = .ok (.iconst 0, 1) := by decide +kernel
theorem dX6_findWhoHeard_55 : decode cX6_findWhoHeard 55 = .ok (.istore 4, 2) := by decide +kernel
theorem dX6_findWhoHeard_57 : decode cX6_findWhoHeard 57 = .ok (.iload 4, 2) := by decide +kernel
theorem dX6_findWhoHeard_59 : decode cX6_findWhoHeard 59 = .ok (.bipush 12, 2) := by decide +kernel
theorem dX6_findWhoHeard_61 : decode cX6_findWhoHeard 61 = .ok (.if_icmp .ge 30, 3) := by decide +kernel
theorem dX6_findWhoHeard_64 : decode cX6_findWhoHeard 64 = .ok (.aload_n 0, 1) := by decide +kernel
theorem dX6_findWhoHeard_65 : decode cX6_findWhoHeard 65 = .ok (.getfield 30, 3) := by decide +kernel
theorem dX6_findWhoHeard_68 : decode cX6_findWhoHeard 68 = .ok (.aload_n 1, 1) := by decide +kernel
theorem dX6_findWhoHeard_69 : decode cX6_findWhoHeard 69 = .ok (.iload 4, 2) := by decide +kernel
theorem dX6_findWhoHeard_71 : decode cX6_findWhoHeard 71 = .ok (.invokevirtual 107, 3) := by decide +kernel
theorem dX6_findWhoHeard_74 : decode cX6_findWhoHeard 74 = .ok (.aload_n 0, 1) := by decide +kernel
theorem dX6_findWhoHeard_75 : decode cX6_findWhoHeard 75 = .ok (.iload_n 3, 1) := by decide +kernel
theorem dX6_findWhoHeard_76 : decode cX6_findWhoHeard 76 = .ok (.bipush 12, 2) := by decide +kernel
theorem dX6_findWhoHeard_78 : decode cX6_findWhoHeard 78 = .ok (.imul, 1) := by decide +kernel
theorem dX6_findWhoHeard_79 : decode cX6_findWhoHeard 79 = .ok (.iload 4, 2) := by decide +kernel
theorem dX6_findWhoHeard_81 : decode cX6_findWhoHeard 81 = .ok (.iadd, 1) := by decide +kernel
theorem dX6_findWhoHeard_82 : decode cX6_findWhoHeard 82 = .ok (.invokevirtual 111, 3) := by decide +kernel
theorem dX6_findWhoHeard_85 : decode cX6_findWhoHeard 85 = .ok (.iinc 4 1, 3) := by decide +kernel
theorem dX6_findWhoHeard_88 : decode cX6_findWhoHeard 88 = .ok (.goto (-31), 3) := by decide +kernel
theorem dX6_findWhoHeard_91 : decode cX6_findWhoHeard 91 = .ok (.aload_n 0, 1) := by decide +kernel
theorem dX6_findWhoHeard_92 : decode cX6_findWhoHeard 92 = .ok (.getfield 30, 3) := by decide +kernel
theorem dX6_findWhoHeard_95 : decode cX6_findWhoHeard 95 = .ok (.invokevirtual 114, 3) := by decide +kernel
theorem dX6_findWhoHeard_98 : decode cX6_findWhoHeard 98 = .ok (.iinc 3 1, 3) := by decide +kernel
theorem dX6_findWhoHeard_101 : decode cX6_findWhoHeard 101 = .ok (.goto (-64), 3) := by decide +kernel
theorem dX6_findWhoHeard_104 : decode cX6_findWhoHeard 104 = .ok (.return_, 1) := by decide +kernel
theorem dX6_markNewlyHeard_0 : decode cX6_markNewlyHeard 0 = .ok (.iconst 0, 1) := by decide +kernel
theorem dX6_markNewlyHeard_1 : decode cX6_markNewlyHeard 1 = .ok (.istore_n 2, 1) := by decide +kernel
theorem dX6_markNewlyHeard_2 : decode cX6_markNewlyHeard 2 = .ok (.iload_n 2, 1) := by decide +kernel
theorem dX6_markNewlyHeard_3 : decode cX6_markNewlyHeard 3 = .ok (.aload_n 0, 1) := by decide +kernel
theorem dX6_markNewlyHeard_4 : decode cX6_markNewlyHeard 4 = .ok (.getfield 21, 3) := by decide +kernel
theorem dX6_markNewlyHeard_7 : decode cX6_markNewlyHeard 7 = .ok (.getfield 44, 3) := by decide +kernel
theorem dX6_markNewlyHeard_10 : decode cX6_markNewlyHeard 10 = .ok (.if_icmp .ge 52, 3) := by decide +kernel
theorem dX6_markNewlyHeard_13 : decode cX6_markNewlyHeard 13 = .ok (.aload_n 0, 1) := by decide +kernel
theorem dX6_markNewlyHeard_14 : decode cX6_markNewlyHeard 14 = .ok (.getfield 30, 3) := by decide +kernel
theorem dX6_markNewlyHeard_17 : decode cX6_markNewlyHeard 17 = .ok (.getfield 117, 3) := by decide +kernel
theorem dX6_markNewlyHeard_20 : decode cX6_markNewlyHeard 20 = .ok (.iload_n 2, 1) := by decide +kernel
theorem dX6_markNewlyHeard_21 : decode cX6_markNewlyHeard 21 = .ok (.iaload, 1) := by decide +kernel
theorem dX6_markNewlyHeard_22 : decode cX6_markNewlyHeard 22 = .ok (.aload_n 0, 1) := by decide +kernel
theorem dX6_markNewlyHeard_23 : decode cX6_markNewlyHeard 23 = .ok (.getfield 18, 3) := by decide +kernel
theorem dX6_markNewlyHeard_26 : decode cX6_markNewlyHeard 26 = .ok (.iload_n 2, 1) := by decide +kernel
theorem dX6_markNewlyHeard_27 : decode cX6_markNewlyHeard 27 = .ok (.iaload, 1) := by decide +kernel
theorem dX6_markNewlyHeard_28 : decode cX6_markNewlyHeard 28 = .ok (.iconst (-1), 1) := by decide +kernel
theorem dX6_markNewlyHeard_29 : decode cX6_markNewlyHeard 29 = .ok (.ixor, 1) := by decide +kernel
theorem dX6_markNewlyHeard_30 : decode cX6_markNewlyHeard 30 = .ok (.iand, 1) := by decide +kernel
theorem dX6_markNewlyHeard_31 : decode cX6_markNewlyHeard 31 = .ok (.istore_n 3, 1) := by decide +kernel
theorem dX6_markNewlyHeard_32 : decode cX6_markNewlyHeard 32 = .ok (.iload_n 3, 1) := by decide +kernel
theorem dX6_markNewlyHeard_33 : decode cX6_markNewlyHeard 33 = .ok (.ifCond .eq 23, 3) := by decide +kernel
theorem dX6_markNewlyHeard_36 : decode cX6_markNewlyHeard 36 = .ok (.aload_n 0, 1) := by decide +kernel
theorem dX6_markNewlyHeard_37 : decode cX6_markNewlyHeard 37 = .ok (.getfield 9, 3) := by decide +kernel
theorem dX6_markNewlyHeard_40 : decode cX6_markNewlyHeard 40 = .ok (.iload_n 2, 1) := by decide +kernel
theorem dX6_markNewlyHeard_41 : decode cX6_markNewlyHeard 41 = .ok (.iload_n 3, 1) := by decide +kernel
theorem dX6_markNewlyHeard_42 : decode cX6_markNewlyHeard 42 = .ok (.iload_n 1, 1) := by decide +kernel
theorem dX6_markNewlyHeard_43 : decode cX6_markNewlyHeard 43 = .ok (.invokestatic 76, 3) := by decide +kernel
theorem dX6_markNewlyHeard_46 : decode cX6_markNewlyHeard 46 = .ok (.aload_n 0, 1) := by decide +kernel
theorem dX6_markNewlyHeard_47 : decode cX6_markNewlyHeard 47 = .ok (.getfield 18, 3) := by decide +kernel
theorem dX6_markNewlyHeard_50 : decode cX6_markNewlyHeard 50 = .ok (.iload_n 2, 1) := by decide +kernel
theorem dX6_markNewlyHeard_51 : decode cX6_markNewlyHeard 51 = .ok (.dup2, 1) := by decide +kernel
theorem dX6_markNewlyHeard_52 : decode cX6_markNewlyHeard 52 = .ok (.iaload, 1) := by decide +kernel
theorem dX6_markNewlyHeard_53 : decode cX6_markNewlyHeard 53 = .ok (.iload_n 3, 1) := by decide +kernel
theorem dX6_markNewlyHeard_54 : decode cX6_markNewlyHeard 54 = .ok (.ior, 1) := by decide +kernel
theorem dX6_markNewlyHeard_55 : decode cX6_markNewlyHeard 55 = .ok (.iastore, 1) := by decide +kernel
theorem dX6_markNewlyHeard_56 : decode cX6_markNewlyHeard 56 = .ok (.iinc 2 1, 3) := by decide +kernel
theorem dX6_markNewlyHeard_59 : decode cX6_markNewlyHeard 59 = .ok (.goto (-57), 3) := by decide +kernel
theorem dX6_markNewlyHeard_62 : decode cX6_markNewlyHeard 62 = .ok (.return_, 1) := by decide +kernel
theorem dX6_mark_0 : decode cX6_mark 0 = .ok (.iconst 0, 1) := by decide +kernel
theorem dX6_mark_1 : decode cX6_mark 1 = .ok (.istore 4, 2) := by decide +kernel
theorem dX6_mark_3 : decode cX6_mark 3 = .ok (.iload 4, 2) := by decide +kernel
theorem dX6_mark_5 : decode cX6_mark 5 = .ok (.bipush 6, 2) := by decide +kernel
theorem dX6_mark_7 : decode cX6_mark 7 = .ok (.if_icmp .ge 28, 3) := by decide +kernel
theorem dX6_mark_10 : decode cX6_mark 10 = .ok (.iload_n 2, 1) := by decide +kernel
theorem dX6_mark_11 : decode cX6_mark 11 = .ok (.iload 4, 2) := by decide +kernel
theorem dX6_mark_13 : decode cX6_mark 13 = .ok (.ishr, 1) := by decide +kernel
theorem dX6_mark_14 : decode cX6_mark 14 = .ok (.iconst 1, 1) := by decide +kernel
theorem dX6_mark_15 : decode cX6_mark 15 = .ok (.iand, 1) := by decide +kernel
theorem dX6_mark_16 : decode cX6_mark 16 = .ok (.ifCond .eq 13, 3) := by decide +kernel
theorem dX6_mark_19 : decode cX6_mark 19 = .ok (.aload_n 0, 1) := by decide +kernel
theorem dX6_mark_20 : decode cX6_mark 20 = .ok (.iload_n 1, 1) := by decide +kernel
theorem dX6_mark_21 : decode cX6_mark 21 = .ok (.bipush 6, 2) := by decide +kernel
theorem dX6_mark_23 : decode cX6_mark 23 = .ok (.imul, 1) := by decide +kernel
theorem dX6_mark_24 : decode cX6_mark 24 = .ok (.iload 4, 2) := by decide +kernel
theorem dX6_mark_26 : decode cX6_mark 26 = .ok (.iadd, 1) := by decide +kernel
theorem dX6_mark_27 : decode cX6_mark 27 = .ok (.iload_n 3, 1) := by decide +kernel
theorem dX6_mark_28 : decode cX6_mark 28 = .ok (.iastore, 1) := by decide +kernel
theorem dX6_mark_29 : decode cX6_mark 29 = .ok (.iinc 4 1, 3) := by decide +kernel
theorem dX6_mark_32 : decode cX6_mark 32 = .ok (.goto (-29), 3) := by decide +kernel
theorem dX6_mark_35 : decode cX6_mark 35 = .ok (.return_, 1) := by decide +kernel
theorem dX7_init_0 : decode cX7_init 0 = .ok (.aload_n 0, 1) := by decide +kernel
theorem dX7_init_1 : decode cX7_init 1 = .ok (.invokespecial 1, 3) := by decide +kernel
theorem dX7_init_4 : decode cX7_init 4 = .ok (.aload_n 0, 1) := by decide +kernel
theorem dX7_init_5 : decode cX7_init 5 = .ok (.sipush 700, 3) := by decide +kernel
theorem dX7_init_8 : decode cX7_init 8 = .ok (.newarray .byte, 2) := by decide +kernel
theorem dX7_init_10 : decode cX7_init 10 = .ok (.putfield 9, 3) := by decide +kernel
theorem dX7_init_13 : decode cX7_init 13 = .ok (.aload_n 0, 1) := by decide +kernel
theorem dX7_init_14 : decode cX7_init 14 = .ok (.new 13, 3) := by decide +kernel
theorem dX7_init_17 : decode cX7_init 17 = .ok (.dup, 1) := by decide +kernel
theorem dX7_init_18 : decode cX7_init 18 = .ok (.aload_n 0, 1) := by decide +kernel
theorem dX7_init_19 : decode cX7_init 19 = .ok (.getfield 9, 3) := by decide +kernel
theorem dX7_init_22 : decode cX7_init 22 = .ok (.invokespecial 15, 3) := by decide +kernel
theorem dX7_init_25 : decode cX7_init 25 = .ok (.putfield 18, 3) := by decide +kernel
theorem dX7_init_28 : decode cX7_init 28 = .ok (.aload_n 0, 1) := by decide +kernel
theorem dX7_init_29 : decode cX7_init 29 = .ok (.iconst (-1), 1) := by decide +kernel
theorem dX7_init_30 : decode cX7_init 30 = .ok (.putfield 22, 3) := by decide +kernel
theorem dX7_init_33 : decode cX7_init 33 = .ok (.aload_n 0, 1) := by decide +kernel
theorem dX7_init_34 : decode cX7_init 34 = .ok (.new 26, 3) := by decide +kernel
theorem dX7_init_37 : decode cX7_init 37 = .ok (.dup, 1) := by decide +kernel
theorem dX7_init_38 : decode cX7_init 38 = .ok (.invokespecial 28, 3) := by decide +kernel
theorem dX7_init_41 : decode cX7_init 41 = .ok (.putfield 29, 3) := by decide +kernel
theorem dX7_init_44 : decode cX7_init 44 = .ok (.aload_n 0, 1) := by decide +kernel
theorem dX7_init_45 : decode cX7_init 45 = .ok (.new 33, 3) := by decide +kernel
theorem dX7_init_48 : decode cX7_init 48 = .ok (.dup, 1) := by decide +kernel
theorem dX7_init_49 : decode cX7_init 49 = .ok (.invokespecial 35, 3) := by decide +kernel
theorem dX7_init_52 : decode cX7_init 52 = .ok (.putfield 36, 3) := by decide +kernel
theorem dX7_init_55 : decode cX7_init 55 = .ok (.aload_n 0, 1) := by decide +kernel
theorem dX7_init_56 : decode cX7_init 56 = .ok (.new 40, 3) := by decide +kernel
theorem dX7_init_59 : decode cX7_init 59 = .ok (.dup, 1) := by decide +kernel
theorem dX7_init_60 : decode cX7_init 60 = .ok (.aload_n 0, 1) := by decide +kernel
theorem dX7_init_61 : decode cX7_init 61 = .ok (.getfield 29, 3) := by decide +kernel
theorem dX7_init_64 : decode cX7_init 64 = .ok (.invokespecial 42, 3) := by decide +kernel
theorem dX7_init_67 : decode cX7_init 67 = .ok (.putfield 45, 3) := by decide +kernel
theorem dX7_init_70 : decode cX7_init 70 = .ok (.aload_n 0, 1) := by decide +kernel
theorem dX7_init_71 : decode cX7_init 71 = .ok (.new 49, 3) := by decide +kernel
theorem dX7_init_74 : decode cX7_init 74 = .ok (.dup, 1) := by decide +kernel
theorem dX7_init_75 : decode cX7_init 75 = .ok (.aload_n 0, 1) := by decide +kernel
theorem dX7_init_76 : decode cX7_init 76 = .ok (.getfield 29, 3) := by decide +kernel
theorem dX7_init_79 : decode cX7_init 79 = .ok (.invokespecial 51, 3) := by decide +kernel
theorem dX7_init_82 : decode cX7_init 82 = .ok (.putfield 52, 3) := by decide +kernel
theorem dX7_init_85 : decode cX7_init 85 = .ok (.aload_n 0, 1) := by decide +kernel
theorem dX7_init_86 : decode cX7_init 86 = .ok (.new 56, 3) := by decide +kernel
theorem dX7_init_89 : decode cX7_init 89 = .ok (.dup, 1) := by decide +kernel
theorem dX7_init_90 : decode cX7_init 90 = .ok (.aload_n 0, 1) := by decide +kernel
theorem dX7_init_91 : decode cX7_init 91 = .ok (.getfield 29, 3) := by decide +kernel
theorem dX7_init_94 : decode cX7_init 94 = .ok (.invokespecial 58, 3) := by decide +kernel
theorem dX7_init_97 : decode cX7_init 97 = .ok (.putfield 59, 3) := by decide +kernel
theorem dX7_init_100 : decode cX7_init 100 = .ok (.aload_n 0, 1) := by decide +kernel
theorem dX7_init_101 : decode cX7_init 101 = .ok (.new 63, 3) := by decide +kernel
theorem dX7_init_104 : decode cX7_init 104 = .ok (.dup, 1) := by decide +kernel
theorem dX7_init_105 : decode cX7_init 105 = .ok (.aload_n 0, 1) := by decide +kernel
theorem dX7_init_106 : decode cX7_init 106 = .ok (.getfield 29, 3) := by decide +kernel
theorem dX7_init_109 : decode cX7_init 109 = .ok (.invokespecial 65, 3) := by decide +kernel
theorem dX7_init_112 : decode cX7_init 112 = .ok (.putfield 66, 3) := by decide +kernel
theorem dX7_init_115 : decode cX7_init 115 = .ok (.aload_n 0, 1) := by decide +kernel
theorem dX7_init_116 : decode cX7_init 116 = .ok (.bipush 12, 2) := by decide +kernel
theorem dX7_init_118 : decode cX7_init 118 = .ok (.newarray .int, 2) := by decide +kernel
theorem dX7_init_120 : decode cX7_init 120 = .ok (.putfield 70, 3) := by decide +kernel
theorem dX7_init_123 : decode cX7_init 123 = .ok (.return_, 1) := by decide +kernel
theorem dX7_feed_0 : decode cX7_feed 0 = .ok (.aload_n 0, 1) := by decide +kernel
theorem dX7_feed_1 : decode cX7_feed 1 = .ok (.getfield 74, 3) := by decide +kernel
theorem dX7_feed_4 : decode cX7_feed 4 = .ok (.bipush 20, 2) := by decide +kernel
theorem dX7_feed_6 : decode cX7_feed 6 = .ok (.iadd, 1) := by decide +kernel
theorem dX7_feed_7 : decode cX7_feed 7 = .ok (.sipush 700, 3) := by decide +kernel
theorem dX7_feed_10 : decode cX7_feed 10 = .ok (.if_icmp .le 5, 3) := by decide +kernel
theorem dX7_feed_13 : decode cX7_feed 13 = .ok (.iconst (-1), 1) := by decide +kernel
theorem dX7_feed_14 : decode cX7_feed 14 = .ok (.ireturn, 1) := by decide +kernel
theorem dX7_feed_15 : decode cX7_feed 15 = .ok (.aload_n 0, 1) := by decide +kernel
theorem dX7_feed_16 : decode cX7_feed 16 = .ok (.iload_n 1, 1) := by decide +kernel
theorem dX7_feed_17 : decode cX7_feed 17 = .ok (.invokevirtual 77, 3) := by decide +kernel
theorem dX7_feed_20 : decode cX7_feed 20 = .ok (.aload_n 0, 1) := by decide +kernel
theorem dX7_feed_21 : decode cX7_feed 21 = .ok (.iload_n 2, 1) := by decide +kernel
theorem dX7_feed_22 : decode cX7_feed 22 = .ok (.invokevirtual 77, 3) := by decide +kernel
theorem dX7_feed_25 : decode cX7_feed 25 = .ok (.aload_n 0, 1) := by decide +kernel
theorem dX7_feed_26 : decode cX7_feed 26 = .ok (.iload_n 3, 1) := by decide +kernel
theorem dX7_feed_27 : decode cX7_feed 27 = .ok (.invokevirtual 77, 3) := by decide +kernel
theorem dX7_feed_30 : decode cX7_feed 30 = .ok (.aload_n 0, 1) := by decide +kernel
theorem dX7_feed_31 : decode cX7_feed 31 = .ok (.iload 4, 2) := by decide +kernel
theorem dX7_feed_33 : decode cX7_feed 33 = .ok (.invokevirtual 77, 3) := by decide +kernel
theorem dX7_feed_36 : decode cX7_feed 36 = .ok (.aload_n 0, 1) := by decide +kernel
theorem dX7_feed_37 : decode cX7_feed 37 = .ok (.iload 5, 2) := by decide +kernel
theorem dX7_feed_39 : decode cX7_feed 39 = .ok (.invokevirtual 77, 3) := by decide +kernel
theorem dX7_feed_42 : decode cX7_feed 42 = .ok (.aload_n 0, 1) := by decide +kernel
theorem dX7_feed_43 : decode cX7_feed 43 = .ok (.getfield 74, 3) := by decide +kernel
theorem dX7_feed_46 : decode cX7_feed 46 = .ok (.ireturn, 1) := by decide +kernel
theorem dX7_putOnTape_0 : decode cX7_putOnTape 0 = .ok (.bipush 24, 2) := by decide +kernel
theorem dX7_putOnTape_2 : decode cX7_putOnTape 2 = .ok (.istore_n 2, 1) := by decide +kernel
theorem dX7_putOnTape_3 : decode cX7_putOnTape 3 = .ok (.iload_n 2, 1) := by decide +kernel
theorem dX7_putOnTape_4 : decode cX7_putOnTape 4 = .ok (.ifCond .lt 32, 3) := by decide +kernel
theorem dX7_putOnTape_7 : decode cX7_putOnTape 7 = .ok (.aload_n 0, 1) := by decide +kernel
theorem dX7_putOnTape_8 : decode cX7_putOnTape 8 = .ok (.getfield 9, 3) := by decide +kernel
theorem dX7_putOnTape_11 : decode cX7_putOnTape 11 = .ok (.aload_n 0, 1) := by decide +kernel
theorem dX7_putOnTape_12 : decode cX7_putOnTape 12 = .ok (.getfield 74, 3) := by decide +kernel
theorem dX7_putOnTape_15 : decode cX7_putOnTape 15 = .ok (.iload_n 1, 1) := by decide +kernel
theorem dX7_putOnTape_16 : decode cX7_putOnTape 16 = .ok (.iload_n 2, 1) := by decide +kernel
theorem dX7_putOnTape_17 : decode cX7_putOnTape 17 = .ok (.iushr, 1) := by decide +kernel
theorem dX7_putOnTape_18 : decode cX7_putOnTape 18 = .ok (.i2b, 1) := by decide +kernel
theorem dX7_putOnTape_19 : decode cX7_putOnTape 19 = .ok (.bastore, 1) := by decide +kernel
theorem dX7_putOnTape_20 : decode cX7_putOnTape 20 = .ok (.aload_n 0, 1) := by decide +kernel
theorem dX7_putOnTape_21 : decode cX7_putOnTape 21 = .ok (.dup, 1) := by decide +kernel
theorem dX7_putOnTape_22 : decode cX7_putOnTape 22 = .ok (.getfield 74, 3) := by decide +kernel
theorem dX7_putOnTape_25 : decode cX7_putOnTape 25 = .ok (.iconst 1, 1) := by decide +kernel
theorem dX7_putOnTape_26 : decode cX7_putOnTape 26 = .ok (.iadd, 1) := by decide +kernel
theorem dX7_putOnTape_27 : decode cX7_putOnTape 27 = .ok (.putfield 74, 3) := by decide +kernel
theorem dX7_putOnTape_30 : decode cX7_putOnTape 30 = .ok (.iinc 2 (-8), 3) := by decide +kernel
theorem dX7_putOnTape_33 : decode cX7_putOnTape 33 = .ok (.goto (-30), 3) := by decide +kernel
theorem dX7_putOnTape_36 : decode cX7_putOnTape 36 = .ok (.return_, 1) := by decide +kernel
theorem dX7_town_0 : decode cX7_town 0 = .ok (.iload_n 1, 1) := by decide +kernel
theorem dX7_town_1 : decode cX7_town 1 = .ok (.ifCond .lt 11, 3) := by decide +kernel
theorem dX7_town_4 : decode cX7_town 4 = .ok (.iload_n 1, 1) := by decide +kernel
theorem dX7_town_5 : decode cX7_town 5 = .ok (.aload_n 0, 1) := by decide +kernel
theorem dX7_town_6 : decode cX7_town 6 = .ok (.getfield 74, 3) := by decide +kernel
theorem dX7_town_9 : decode cX7_town 9 = .ok (.if_icmp .le 13, 3) := by decide +kernel
theorem dX7_town_12 : decode cX7_town 12 = .ok (.new 81, 3) := by decide +kernel
theorem dX7_town_15 : decode cX7_town 15 = .ok (.dup, 1) := by decide +kernel
theorem dX7_town_16 : decode cX7_town 16 = .ok (.ldc 83, 2) := by decide +kernel
theorem dX7_town_18 : decode cX7_town 18 = .ok (.invokespecial 85, 3) := by decide +kernel
theorem dX7_town_21 : decode cX7_town 21 = .ok (.athrow, 1) := by decide +kernel
theorem dX7_town_22 : decode cX7_town 22 = .ok (.aload_n 0, 1) := by decide +kernel
theorem dX7_town_23 : decode cX7_town 23 = .ok (.iconst 0, 1) := by decide +kernel
theorem dX7_town_24 : decode cX7_town 24 = .ok (.putfield 74, 3) := by decide +kernel
theorem dX7_town_27 : decode cX7_town 27 = .ok (.aload_n 0, 1) := by decide +kernel
theorem dX7_town_28 : decode cX7_town 28 = .ok (.getfield 18, 3) := by decide +kernel
theorem dX7_town_31 : decode cX7_town 31 = .ok (.iload_n 1, 1) := by decide +kernel
theorem dX7_town_32 : decode cX7_town 32 = .ok (.invokevirtual 88, 3) := by decide +kernel
theorem dX7_town_35 : decode cX7_town 35 = .ok (.istore_n 2, 1) := by decide +kernel
theorem dX7_town_36 : decode cX7_town 36 = .ok (.iload_n 2, 1) := by decide +kernel
theorem dX7_town_37 : decode cX7_town 37 = .ok (.ifCond .eq 26, 3) := by decide +kernel
theorem dX7_town_40 : decode cX7_town 40 = .ok (.aload_n 0, 1) := by decide +kernel
theorem dX7_town_41 : decode cX7_town 41 = .ok (.aload_n 0, 1) := by decide +kernel
theorem dX7_town_42 : decode cX7_town 42 = .ok (.getfield 18, 3) := by decide +kernel
theorem dX7_town_45 : decode cX7_town 45 = .ok (.getfield 92, 3) := by decide +kernel
theorem dX7_town_48 : decode cX7_town 48 = .ok (.putfield 22, 3) := by decide +kernel
theorem dX7_town_51 : decode cX7_town 51 = .ok (.aload_n 0, 1) := by decide +kernel
theorem dX7_town_52 : decode cX7_town 52 = .ok (.dup, 1) := by decide +kernel
theorem dX7_town_53 : decode cX7_town 53 = .ok (.getfield 93, 3) := by decide +kernel
theorem dX7_town_56 : decode cX7_town 56 = .ok (.iconst 1, 1) := by decide +kernel
theorem dX7_town_57 : decode cX7_town 57 = .ok (.iadd, 1) := by decide +kernel
theorem dX7_town_58 : decode cX7_town 58 = .ok (.putfield 93, 3) := by decide +kernel
theorem dX7_town_61 : decode cX7_town 61 = .ok (.iload_n 2, 1) := by decide +kernel
theorem dX7_town_62 : decode cX7_town 62 = .ok (.ireturn, 1) := by decide +kernel
theorem dX7_town_63 : decode cX7_town 63 = .ok (.aload_n 0, 1) := by decide +kernel
theorem dX7_town_64 : decode cX7_town 64 = .ok (.iconst (-1), 1) := by decide +kernel
theorem dX7_town_65 : decode cX7_town 65 = .ok (.putfield 22, 3) := by decide +kernel
theorem dX7_town_68 : decode cX7_town 68 = .ok (.aload_n 0, 1) := by decide +kernel
theorem dX7_town_69 : decode cX7_town 69 = .ok (.getfield 29, 3) := by decide +kernel
theorem dX7_town_72 : decode cX7_town 72 = .ok (.aload_n 0, 1) := by decide +kernel
theorem dX7_town_73 : decode cX7_town 73 = .ok (.getfield 18, 3) := by decide +kernel
theorem dX7_town_76 : decode cX7_town 76 = .ok (.getfield 96, 3) := by decide +kernel
theorem dX7_town_79 : decode cX7_town 79 = .ok (.invokevirtual 97, 3) := by decide +kernel
theorem dX7_town_82 : decode cX7_town 82 = .ok (.aload_n 0, 1) := by decide +kernel
theorem dX7_town_83 : decode cX7_town 83 = .ok (.getfield 29, 3) := by decide +kernel
theorem dX7_town_86 : decode cX7_town 86 = .ok (.invokevirtual 100, 3) := by decide +kernel
theorem dX7_town_89 : decode cX7_town 89 = .ok (.aload_n 0, 1) := by decide +kernel
theorem dX7_town_90 : decode cX7_town 90 = .ok (.getfield 36, 3) := by decide +kernel
theorem dX7_town_93 : decode cX7_town 93 = .ok (.iconst 0, 1) := by decide +kernel
theorem dX7_town_94 : decode cX7_town 94 = .ok (.putfield 103, 3) := by decide +kernel
theorem dX7_town_97 : decode cX7_town 97 = .ok (.aload_n 0, 1) := by decide +kernel
theorem dX7_town_98 : decode cX7_town 98 = .ok (.getfield 45, 3) := by decide +kernel
theorem dX7_town_101 : decode cX7_town 101 = .ok (.invokevirtual 106, 3) := by decide +kernel
theorem dX7_town_104 : decode cX7_town 104 = .ok (.aload_n 0, 1) := by decide +kernel
theorem dX7_town_105 : decode cX7_town 105 = .ok (.iconst 0, 1) := by decide +kernel
theorem dX7_town_106 : decode cX7_town 106 = .ok (.putfield 109, 3) := by decide +kernel
theorem dX7_town_109 : decode cX7_town 109 = .ok (.aload_n 0, 1) := by decide +kernel
theorem dX7_town_110 : decode cX7_town 110 = .ok (.getfield 52, 3) := by decide +kernel
theorem dX7_town_113 : decode cX7_town 113 = .ok (.iconst 0, 1) := by decide +kernel
theorem dX7_town_114 : decode cX7_town 114 = .ok (.putfield 113, 3) := by decide +kernel
theorem dX7_town_117 : decode cX7_town 117 = .ok (.aload_n 0, 1) := by decide +kernel
theorem dX7_town_118 : decode cX7_town 118 = .ok (.getfield 59, 3) := by decide +kernel
theorem dX7_town_121 : decode cX7_town 121 = .ok (.iconst 0, 1) := by decide +kernel
theorem dX7_town_122 : decode cX7_town 122 = .ok (.putfield 116, 3) := by decide +kernel
theorem dX7_town_125 : decode cX7_town 125 = .ok (.aload_n 0, 1) := by decide +kernel
theorem dX7_town_126 : decode cX7_town 126 = .ok (.getfield 59, 3) := by decide +kernel
theorem dX7_town_129 : decode cX7_town 129 = .ok (.iconst 0, 1) := by decide +kernel
theorem dX7_town_130 : decode cX7_town 130 = .ok (.putfield 119, 3) := by decide +kernel
theorem dX7_town_133 : decode cX7_town 133 = .ok (.iconst 0, 1) := by decide +kernel
theorem dX7_town_134 : decode cX7_town 134 = .ok (.ireturn, 1) := by decide +kernel
theorem dX7_fault_0 : decode cX7_fault 0 = .ok (.aload_n 0, 1) := by decide +kernel
theorem dX7_fault_1 : decode cX7_fault 1 = .ok (.getfield 22, 3) := by decide +kernel
theorem dX7_fault_4 : decode cX7_fault 4 = .ok (.ireturn, 1) := by decide +kernel
theorem dX7_count_0 : decode cX7_count 0 = .ok (.iload_n 1, 1) := by decide +kernel
theorem dX7_count_1 : decode cX7_count 1 = .ok (.tableswitch 114 0 8 #[51, 59, 67, 75, 83, 91, 99, 104, 109], 51) := by decide +kernel
theorem dX7_count_52 : decode cX7_count 52 = .ok (.aload_n 0, 1) := by decide +kernel
theorem dX7_count_53 : decode cX7_count 53 = .ok (.getfield 29, 3) := by decide +kernel
theorem dX7_count_56 : decode cX7_count 56 = .ok (.getfield 122, 3) := by decide +kernel
theorem dX7_count_59 : decode cX7_count 59 = .ok (.ireturn, 1) := by decide +kernel
theorem dX7_count_60 : decode cX7_count 60 = .ok (.aload_n 0, 1) := by decide +kernel
theorem dX7_count_61 : decode cX7_count 61 = .ok (.getfield 29, 3) := by decide +kernel
theorem dX7_count_64 : decode cX7_count 64 = .ok (.getfield 125, 3) := by decide +kernel
theorem dX7_count_67 : decode cX7_count 67 = .ok (.ireturn, 1) := by decide +kernel
theorem dX7_count_68 : decode cX7_count 68 = .ok (.aload_n 0, 1) := by decide +kernel
theorem dX7_count_69 : decode cX7_count 69 = .ok (.getfield 29, 3) := by decide +kernel
theorem dX7_count_72 : decode cX7_count 72 = .ok (.getfield 128, 3) := by decide +kernel
theorem dX7_count_75 : decode cX7_count 75 = .ok (.ireturn, 1) := by decide +kernel
theorem dX7_count_76 : decode cX7_count 76 = .ok (.aload_n 0, 1) := by decide +kernel
theorem dX7_count_77 : decode cX7_count 77 = .ok (.getfield 36, 3) := by decide +kernel
theorem dX7_count_80 : decode cX7_count 80 = .ok (.getfield 103, 3) := by decide +kernel
theorem dX7_count_83 : decode cX7_count 83 = .ok (.ireturn, 1) := by decide +kernel
theorem dX7_count_84 : decode cX7_count 84 = .ok (.aload_n 0, 1) := by decide +kernel
theorem dX7_count_85 : decode cX7_count 85 = .ok (.getfield 45, 3) := by decide +kernel
theorem dX7_count_88 : decode cX7_count 88 = .ok (.getfield 131, 3) := by decide +kernel
theorem dX7_count_91 : decode cX7_count 91 = .ok (.ireturn, 1) := by decide +kernel
theorem dX7_count_92 : decode cX7_count 92 = .ok (.aload_n 0, 1) := by decide +kernel
theorem dX7_count_93 : decode cX7_count 93 = .ok (.getfield 45, 3) := by decide +kernel
theorem dX7_count_96 : decode cX7_count 96 = .ok (.getfield 134, 3) := by decide +kernel
theorem dX7_count_99 : decode cX7_count 99 = .ok (.ireturn, 1) := by decide +kernel
theorem dX7_count_100 : decode cX7_count 100 = .ok (.aload_n 0, 1) := by decide +kernel
theorem dX7_count_101 : decode cX7_count 101 = .ok (.getfield 74, 3) := by decide +kernel
theorem dX7_count_104 : decode cX7_count 104 = .ok (.ireturn, 1) := by decide +kernel
theorem dX7_count_105 : decode cX7_count 105 = .ok (.aload_n 0, 1) := by decide +kernel
theorem dX7_count_106 : decode cX7_count 106 = .ok (.getfield 93, 3) := by decide +kernel
theorem dX7_count_109 : decode cX7_count 109 = .ok (.ireturn, 1) := by decide +kernel
theorem dX7_count_110 : decode cX7_count 110 = .ok (.aload_n 0, 1) := by decide +kernel
theorem dX7_count_111 : decode cX7_count 111 = .ok (.getfield 137, 3) := by decide +kernel
theorem dX7_count_114 : decode cX7_count 114 = .ok (.ireturn, 1) := by decide +kernel
theorem dX7_count_115 : decode cX7_count 115 = .ok (.new 140, 3) := by decide +kernel
theorem dX7_count_118 : decode cX7_count 118 = .ok (.dup, 1) := by decide +kernel
theorem dX7_count_119 : decode cX7_count 119 = .ok (.ldc 142, 2) := by decide +kernel
theorem dX7_count_121 : decode cX7_count 121 = .ok (.invokespecial 144, 3) := by decide +kernel
theorem dX7_count_124 : decode cX7_count 124 = .ok (.athrow, 1) := by decide +kernel
theorem dX7_price_0 : decode cX7_price 0 = .ok (.aload_n 0, 1) := by decide +kernel
theorem dX7_price_1 : decode cX7_price 1 = .ok (.iload_n 1, 1) := by decide +kernel
theorem dX7_price_2 : decode cX7_price 2 = .ok (.invokevirtual 145, 3) := by decide +kernel
theorem dX7_price_5 : decode cX7_price 5 = .ok (.aload_n 0, 1) := by decide +kernel
theorem dX7_price_6 : decode cX7_price 6 = .ok (.getfield 29, 3) := by decide +kernel
theorem dX7_price_9 : decode cX7_price 9 = .ok (.getfield 148, 3) := by decide +kernel
theorem dX7_price_12 : decode cX7_price 12 = .ok (.iload_n 1, 1) := by decide +kernel
theorem dX7_price_13 : decode cX7_price 13 = .ok (.iaload, 1) := by decide +kernel
theorem dX7_price_14 : decode cX7_price 14 = .ok (.ireturn, 1) := by decide +kernel
theorem dX7_meeting_0 : decode cX7_meeting 0 = .ok (.aload_n 0, 1) := by decide +kernel
theorem dX7_meeting_1 : decode cX7_meeting 1 = .ok (.iload_n 1, 1) := by decide +kernel
theorem dX7_meeting_2 : decode cX7_meeting 2 = .ok (.invokevirtual 151, 3) := by decide +kernel
theorem dX7_meeting_5 : decode cX7_meeting 5 = .ok (.iload_n 2, 1) := by decide +kernel
theorem dX7_meeting_6 : decode cX7_meeting 6 = .ok (.tableswitch 56 0 2 #[26, 36, 46], 26) := by decide +kernel
theorem dX7_meeting_32 : decode cX7_meeting 32 = .ok (.aload_n 0, 1) := by decide +kernel
theorem dX7_meeting_33 : decode cX7_meeting 33 = .ok (.getfield 29, 3) := by decide +kernel
theorem dX7_meeting_36 : decode cX7_meeting 36 = .ok (.getfield 154, 3) := by decide +kernel
theorem dX7_meeting_39 : decode cX7_meeting 39 = .ok (.iload_n 1, 1) := by decide +kernel
theorem dX7_meeting_40 : decode cX7_meeting 40 = .ok (.iaload, 1) := by decide +kernel
theorem dX7_meeting_41 : decode cX7_meeting 41 = .ok (.ireturn, 1) := by decide +kernel
theorem dX7_meeting_42 : decode cX7_meeting 42 = .ok (.aload_n 0, 1) := by decide +kernel
theorem dX7_meeting_43 : decode cX7_meeting 43 = .ok (.getfield 29, 3) := by decide +kernel
theorem dX7_meeting_46 : decode cX7_meeting 46 = .ok (.getfield 157, 3) := by decide +kernel
theorem dX7_meeting_49 : decode cX7_meeting 49 = .ok (.iload_n 1, 1) := by decide +kernel
theorem dX7_meeting_50 : decode cX7_meeting 50 = .ok (.iaload, 1) := by decide +kernel
theorem dX7_meeting_51 : decode cX7_meeting 51 = .ok (.ireturn, 1) := by decide +kernel
theorem dX7_meeting_52 : decode cX7_meeting 52 = .ok (.aload_n 0, 1) := by decide +kernel
theorem dX7_meeting_53 : decode cX7_meeting 53 = .ok (.getfield 29, 3) := by decide +kernel
theorem dX7_meeting_56 : decode cX7_meeting 56 = .ok (.getfield 160, 3) := by decide +kernel
theorem dX7_meeting_59 : decode cX7_meeting 59 = .ok (.iload_n 1, 1) := by decide +kernel
theorem dX7_meeting_60 : decode cX7_meeting 60 = .ok (.iaload, 1) := by decide +kernel
theorem dX7_meeting_61 : decode cX7_meeting 61 = .ok (.ireturn, 1) := by decide +kernel
theorem dX7_meeting_62 : decode cX7_meeting 62 = .ok (.new 140, 3) := by decide +kernel
theorem dX7_meeting_65 : decode cX7_meeting 65 = .ok (.dup, 1) := by decide +kernel
theorem dX7_meeting_66 : decode cX7_meeting 66 = .ok (.ldc 163, 2) := by decide +kernel
theorem dX7_meeting_68 : decode cX7_meeting 68 = .ok (.invokespecial 144, 3) := by decide +kernel
theorem dX7_meeting_71 : decode cX7_meeting 71 = .ok (.athrow, 1) := by decide +kernel
theorem dX7_promise_0 : decode cX7_promise 0 = .ok (.aload_n 0, 1) := by decide +kernel
theorem dX7_promise_1 : decode cX7_promise 1 = .ok (.iload_n 1, 1) := by decide +kernel
theorem dX7_promise_2 : decode cX7_promise 2 = .ok (.invokevirtual 165, 3) := by decide +kernel
theorem dX7_promise_5 : decode cX7_promise 5 = .ok (.iload_n 2, 1) := by decide +kernel
theorem dX7_promise_6 : decode cX7_promise 6 = .ok (.tableswitch 125 0 7 #[46, 56, 66, 76, 86, 96, 105, 115], 46) := by decide +kernel
theorem dX7_promise_52 : decode cX7_promise 52 = .ok (.aload_n 0, 1) := by decide +kernel
theorem dX7_promise_53 : decode cX7_promise 53 = .ok (.getfield 29, 3) := by decide +kernel
theorem dX7_promise_56 : decode cX7_promise 56 = .ok (.getfield 168, 3) := by decide +kernel
theorem dX7_promise_59 : decode cX7_promise 59 = .ok (.iload_n 1, 1) := by decide +kernel
theorem dX7_promise_60 : decode cX7_promise 60 = .ok (.iaload, 1) := by decide +kernel
theorem dX7_promise_61 : decode cX7_promise 61 = .ok (.ireturn, 1) := by decide +kernel
theorem dX7_promise_62 : decode cX7_promise 62 = .ok (.aload_n 0, 1) := by decide +kernel
theorem dX7_promise_63 : decode cX7_promise 63 = .ok (.getfield 29, 3) := by decide +kernel
theorem dX7_promise_66 : decode cX7_promise 66 = .ok (.getfield 171, 3) := by decide +kernel
theorem dX7_promise_69 : decode cX7_promise 69 = .ok (.iload_n 1, 1) := by decide +kernel
theorem dX7_promise_70 : decode cX7_promise 70 = .ok (.iaload, 1) := by decide +kernel
theorem dX7_promise_71 : decode cX7_promise 71 = .ok (.ireturn, 1) := by decide +kernel
theorem dX7_promise_72 : decode cX7_promise 72 = .ok (.aload_n 0, 1) := by decide +kernel
theorem dX7_promise_73 : decode cX7_promise 73 = .ok (.getfield 29, 3) := by decide +kernel
theorem dX7_promise_76 : decode cX7_promise 76 = .ok (.getfield 174, 3) := by decide +kernel
theorem dX7_promise_79 : decode cX7_promise 79 = .ok (.iload_n 1, 1) := by decide +kernel
theorem dX7_promise_80 : decode cX7_promise 80 = .ok (.iaload, 1) := by decide +kernel
theorem dX7_promise_81 : decode cX7_promise 81 = .ok (.ireturn, 1) := by decide +kernel
theorem dX7_promise_82 : decode cX7_promise 82 = .ok (.aload_n 0, 1) := by decide +kernel
theorem dX7_promise_83 : decode cX7_promise 83 = .ok (.getfield 29, 3) := by decide +kernel
theorem dX7_promise_86 : decode cX7_promise 86 = .ok (.getfield 177, 3) := by decide +kernel
theorem dX7_promise_89 : decode cX7_promise 89 = .ok (.iload_n 1, 1) := by decide +kernel
theorem dX7_promise_90 : decode cX7_promise 90 = .ok (.iaload, 1) := by decide +kernel
theorem dX7_promise_91 : decode cX7_promise 91 = .ok (.ireturn, 1) := by decide +kernel
theorem dX7_promise_92 : decode cX7_promise 92 = .ok (.aload_n 0, 1) := by decide +kernel
theorem dX7_promise_93 : decode cX7_promise 93 = .ok (.getfield 29, 3) := by decide +kernel
theorem dX7_promise_96 : decode cX7_promise 96 = .ok (.getfield 180, 3) := by decide +kernel
theorem dX7_promise_99 : decode cX7_promise 99 = .ok (.iload_n 1, 1) := by decide +kernel
theorem dX7_promise_100 : decode cX7_promise 100 = .ok (.iaload, 1) := by decide +kernel
theorem dX7_promise_101 : decode cX7_promise 101 = .ok (.ireturn, 1) := by decide +kernel
theorem dX7_promise_102 : decode cX7_promise 102 = .ok (.aload_n 0, 1) := by decide +kernel
theorem dX7_promise_103 : decode cX7_promise 103 = .ok (.getfield 45, 3) := by decide +kernel
theorem dX7_promise_106 : decode cX7_promise 106 = .ok (.iload_n 1, 1) := by decide +kernel
theorem dX7_promise_107 : decode cX7_promise 107 = .ok (.invokevirtual 183, 3) := by decide +kernel
theorem dX7_promise_110 : decode cX7_promise 110 = .ok (.ireturn, 1) := by decide +kernel
theorem dX7_promise_111 : decode cX7_promise 111 = .ok (.aload_n 0, 1) := by decide +kernel
theorem dX7_promise_112 : decode cX7_promise 112 = .ok (.getfield 45, 3) := by decide +kernel
theorem dX7_promise_115 : decode cX7_promise 115 = .ok (.getfield 186, 3) := by decide +kernel
theorem dX7_promise_118 : decode cX7_promise 118 = .ok (.iload_n 1, 1) := by decide +kernel
theorem dX7_promise_119 : decode cX7_promise 119 = .ok (.iaload, 1) := by decide +kernel
theorem dX7_promise_120 : decode cX7_promise 120 = .ok (.ireturn, 1) := by decide +kernel
theorem dX7_promise_121 : decode cX7_promise 121 = .ok (.aload_n 0, 1) := by decide +kernel
theorem dX7_promise_122 : decode cX7_promise 122 = .ok (.getfield 45, 3) := by decide +kernel
theorem dX7_promise_125 : decode cX7_promise 125 = .ok (.getfield 189, 3) := by decide +kernel
theorem dX7_promise_128 : decode cX7_promise 128 = .ok (.iload_n 1, 1) := by decide +kernel
theorem dX7_promise_129 : decode cX7_promise 129 = .ok (.iaload, 1) := by decide +kernel
theorem dX7_promise_130 : decode cX7_promise 130 = .ok (.ireturn, 1) := by decide +kernel
theorem dX7_promise_131 : decode cX7_promise 131 = .ok (.new 140, 3) := by decide +kernel
theorem dX7_promise_134 : decode cX7_promise 134 = .ok (.dup, 1) := by decide +kernel
theorem dX7_promise_135 : decode cX7_promise 135 = .ok (.ldc 192, 2) := by decide +kernel
theorem dX7_promise_137 : decode cX7_promise 137 = .ok (.invokespecial 144, 3) := by decide +kernel
theorem dX7_promise_140 : decode cX7_promise 140 = .ok (.athrow, 1) := by decide +kernel
theorem dX7_say_0 : decode cX7_say 0 = .ok (.aload_n 0, 1) := by decide +kernel
theorem dX7_say_1 : decode cX7_say 1 = .ok (.iload_n 2, 1) := by decide +kernel
theorem dX7_say_2 : decode cX7_say 2 = .ok (.invokevirtual 151, 3) := by decide +kernel
theorem dX7_say_5 : decode cX7_say 5 = .ok (.aload_n 0, 1) := by decide +kernel
theorem dX7_say_6 : decode cX7_say 6 = .ok (.iload 4, 2) := by decide +kernel
theorem dX7_say_8 : decode cX7_say 8 = .ok (.invokevirtual 165, 3) := by decide +kernel
theorem dX7_say_11 : decode cX7_say 11 = .ok (.iload_n 1, 1) := by decide +kernel
theorem dX7_say_12 : decode cX7_say 12 = .ok (.iconst (-1), 1) := by decide +kernel
theorem dX7_say_13 : decode cX7_say 13 = .ok (.if_icmp .eq 13, 3) := by decide +kernel
theorem dX7_say_16 : decode cX7_say 16 = .ok (.iload_n 1, 1) := by decide +kernel
theorem dX7_say_17 : decode cX7_say 17 = .ok (.ifCond .lt 13, 3) := by decide +kernel
theorem dX7_say_20 : decode cX7_say 20 = .ok (.iload_n 1, 1) := by decide +kernel
theorem dX7_say_21 : decode cX7_say 21 = .ok (.bipush 100, 2) := by decide +kernel
theorem dX7_say_23 : decode cX7_say 23 = .ok (.if_icmp .ge 7, 3) := by decide +kernel
theorem dX7_say_26 : decode cX7_say 26 = .ok (.iconst 1, 1) := by decide +kernel
theorem dX7_say_27 : decode cX7_say 27 = .ok (.goto 4, 3) := by decide +kernel
theorem dX7_say_30 : decode cX7_say 30 = .ok (.iconst 0, 1) := by decide +kernel
theorem dX7_say_31 : decode cX7_say 31 = .ok (.istore 5, 2) := by decide +kernel
theorem dX7_say_33 : decode cX7_say 33 = .ok (.iload_n 3, 1) := by decide +kernel
theorem dX7_say_34 : decode cX7_say 34 = .ok (.ifCond .eq 8, 3) := by decide +kernel
theorem dX7_say_37 : decode cX7_say 37 = .ok (.iload_n 3, 1) := by decide +kernel
theorem dX7_say_38 : decode cX7_say 38 = .ok (.iconst 1, 1) := by decide +kernel
theorem dX7_say_39 : decode cX7_say 39 = .ok (.if_icmp .ne 7, 3) := by decide +kernel
theorem dX7_say_42 : decode cX7_say 42 = .ok (.iconst 1, 1) := by decide +kernel
theorem dX7_say_43 : decode cX7_say 43 = .ok (.goto 4, 3) := by decide +kernel
theorem dX7_say_46 : decode cX7_say 46 = .ok (.iconst 0, 1) := by decide +kernel
theorem dX7_say_47 : decode cX7_say 47 = .ok (.istore 6, 2) := by decide +kernel
theorem dX7_say_49 : decode cX7_say 49 = .ok (.aload_n 0, 1) := by decide +kernel
theorem dX7_say_50 : decode cX7_say 50 = .ok (.getfield 36, 3) := by decide +kernel
theorem dX7_say_53 : decode cX7_say 53 = .ok (.getfield 103, 3) := by decide +kernel
theorem dX7_say_56 : decode cX7_say 56 = .ok (.bipush 60, 2) := by decide +kernel
theorem dX7_say_58 : decode cX7_say 58 = .ok (.if_icmp .ge 13, 3) := by decide +kernel
theorem dX7_say_61 : decode cX7_say 61 = .ok (.iload 5, 2) := by decide +kernel
theorem dX7_say_63 : decode cX7_say 63 = .ok (.ifCond .eq 8, 3) := by decide +kernel
theorem dX7_say_66 : decode cX7_say 66 = .ok (.iload 6, 2) := by decide +kernel
theorem dX7_say_68 : decode cX7_say 68 = .ok (.ifCond .ne 15, 3) := by decide +kernel
theorem dX7_say_71 : decode cX7_say 71 = .ok (.aload_n 0, 1) := by decide +kernel
theorem dX7_say_72 : decode cX7_say 72 = .ok (.dup, 1) := by decide +kernel
theorem dX7_say_73 : decode cX7_say 73 = .ok (.getfield 137, 3) := by decide +kernel
theorem dX7_say_76 : decode cX7_say 76 = .ok (.iconst 1, 1) := by decide +kernel
theorem dX7_say_77 : decode cX7_say 77 = .ok (.iadd, 1) := by decide +kernel
theorem dX7_say_78 : decode cX7_say 78 = .ok (.putfield 137, 3) := by decide +kernel
theorem dX7_say_81 : decode cX7_say 81 = .ok (.iconst (-1), 1) := by decide +kernel
theorem dX7_say_82 : decode cX7_say 82 = .ok (.ireturn, 1) := by decide +kernel
theorem dX7_say_83 : decode cX7_say 83 = .ok (.aload_n 0, 1) := by decide +kernel
theorem dX7_say_84 : decode cX7_say 84 = .ok (.getfield 36, 3) := by decide +kernel
theorem dX7_say_87 : decode cX7_say 87 = .ok (.iload_n 1, 1) := by decide +kernel
theorem dX7_say_88 : decode cX7_say 88 = .ok (.iload_n 2, 1) := by decide +kernel
theorem dX7_say_89 : decode cX7_say 89 = .ok (.iload_n 3, 1) := by decide +kernel
theorem dX7_say_90 : decode cX7_say 90 = .ok (.iload 4, 2) := by decide +kernel
theorem dX7_say_92 : decode cX7_say 92 = .ok (.invokevirtual 194, 3) := by decide +kernel
theorem dX7_say_95 : decode cX7_say 95 = .ok (.aload_n 0, 1) := by decide +kernel
theorem dX7_say_96 : decode cX7_say 96 = .ok (.getfield 59, 3) := by decide +kernel
theorem dX7_say_99 : decode cX7_say 99 = .ok (.iconst 0, 1) := by decide +kernel
theorem dX7_say_100 : decode cX7_say 100 = .ok (.putfield 119, 3) := by decide +kernel
theorem dX7_say_103 : decode cX7_say 103 = .ok (.aload_n 0, 1) := by decide +kernel
theorem dX7_say_104 : decode cX7_say 104 = .ok (.getfield 36, 3) := by decide +kernel
theorem dX7_say_107 : decode cX7_say 107 = .ok (.getfield 103, 3) := by decide +kernel
theorem dX7_say_110 : decode cX7_say 110 = .ok (.ireturn, 1) := by decide +kernel
theorem dX7_unsay_0 : decode cX7_unsay 0 = .ok (.aload_n 0, 1) := by decide +kernel
theorem dX7_unsay_1 : decode cX7_unsay 1 = .ok (.getfield 36, 3) := by decide +kernel
theorem dX7_unsay_4 : decode cX7_unsay 4 = .ok (.getfield 103, 3) := by decide +kernel
theorem dX7_unsay_7 : decode cX7_unsay 7 = .ok (.ifCond .ne 5, 3) := by decide +kernel
theorem dX7_unsay_10 : decode cX7_unsay 10 = .ok (.iconst (-1), 1) := by decide +kernel
theorem dX7_unsay_11 : decode cX7_unsay 11 = .ok (.ireturn, 1) := by decide +kernel
theorem dX7_unsay_12 : decode cX7_unsay 12 = .ok (.aload_n 0, 1) := by decide +kernel
theorem dX7_unsay_13 : decode cX7_unsay 13 = .ok (.getfield 36, 3) := by decide +kernel
theorem dX7_unsay_16 : decode cX7_unsay 16 = .ok (.dup, 1) := by decide +kernel
theorem dX7_unsay_17 : decode cX7_unsay 17 = .ok (.getfield 103, 3) := by decide +kernel
theorem dX7_unsay_20 : decode cX7_unsay 20 = .ok (.iconst 1, 1) := by decide +kernel
theorem dX7_unsay_21 : decode cX7_unsay 21 = .ok (.isub, 1) := by decide +kernel
theorem dX7_unsay_22 : decode cX7_unsay 22 = .ok (.putfield 103, 3) := by decide +kernel
theorem dX7_unsay_25 : decode cX7_unsay 25 = .ok (.aload_n 0, 1) := by decide +kernel
theorem dX7_unsay_26 : decode cX7_unsay 26 = .ok (.getfield 59, 3) := by decide +kernel
theorem dX7_unsay_29 : decode cX7_unsay 29 = .ok (.iconst 0, 1) := by decide +kernel
theorem dX7_unsay_30 : decode cX7_unsay 30 = .ok (.putfield 119, 3) := by decide +kernel
theorem dX7_unsay_33 : decode cX7_unsay 33 = .ok (.aload_n 0, 1) := by decide +kernel
theorem dX7_unsay_34 : decode cX7_unsay 34 = .ok (.getfield 36, 3) := by decide +kernel
theorem dX7_unsay_37 : decode cX7_unsay 37 = .ok (.getfield 103, 3) := by decide +kernel
theorem dX7_unsay_40 : decode cX7_unsay 40 = .ok (.ireturn, 1) := by decide +kernel
theorem dX7_days_0 : decode cX7_days 0 = .ok (.iload_n 1, 1) := by decide +kernel
theorem dX7_days_1 : decode cX7_days 1 = .ok (.ifCond .lt 9, 3) := by decide +kernel
theorem dX7_days_4 : decode cX7_days 4 = .ok (.iload_n 1, 1) := by decide +kernel
theorem dX7_days_5 : decode cX7_days 5 = .ok (.bipush 100, 2) := by decide +kernel
theorem dX7_days_7 : decode cX7_days 7 = .ok (.if_icmp .le 13, 3) := by decide +kernel
theorem dX7_days_10 : decode cX7_days 10 = .ok (.new 81, 3) := by decide +kernel
theorem dX7_days_13 : decode cX7_days 13 = .ok (.dup, 1) := by decide +kernel
theorem dX7_days_14 : decode cX7_days 14 = .ok (.ldc 198, 2) := by decide +kernel
theorem dX7_days_16 : decode cX7_days 16 = .ok (.invokespecial 85, 3) := by decide +kernel
theorem dX7_days_19 : decode cX7_days 19 = .ok (.athrow, 1) := by decide +kernel
theorem dX7_days_20 : decode cX7_days 20 = .ok (.aload_n 0, 1) := by decide +kernel
theorem dX7_days_21 : decode cX7_days 21 = .ok (.getfield 45, 3) := by decide +kernel
theorem dX7_days_24 : decode cX7_days 24 = .ok (.getfield 200, 3) := by decide +kernel
theorem dX7_days_27 : decode cX7_days 27 = .ok (.istore_n 2, 1) := by decide +kernel
theorem dX7_days_28 : decode cX7_days 28 = .ok (.aload_n 0, 1) := by decide +kernel
theorem dX7_days_29 : decode cX7_days 29 = .ok (.getfield 36, 3) := by decide +kernel
theorem dX7_days_32 : decode cX7_days 32 = .ok (.aload_n 0, 1) := by decide +kernel
theorem dX7_days_33 : decode cX7_days 33 = .ok (.getfield 29, 3) := by decide +kernel
theorem dX7_days_36 : decode cX7_days 36 = .ok (.invokevirtual 203, 3) := by decide +kernel
theorem dX7_days_39 : decode cX7_days 39 = .ok (.iconst 0, 1) := by decide +kernel
theorem dX7_days_40 : decode cX7_days 40 = .ok (.istore_n 3, 1) := by decide +kernel
theorem dX7_days_41 : decode cX7_days 41 = .ok (.iload_n 3, 1) := by decide +kernel
theorem dX7_days_42 : decode cX7_days 42 = .ok (.iload_n 1, 1) := by decide +kernel
theorem dX7_days_43 : decode cX7_days 43 = .ok (.if_icmp .ge 45, 3) := by decide +kernel
theorem dX7_days_46 : decode cX7_days 46 = .ok (.iconst 0, 1) := by decide +kernel
theorem dX7_days_47 : decode cX7_days 47 = .ok (.istore 4, 2) := by decide +kernel
theorem dX7_days_49 : decode cX7_days 49 = .ok (.iload 4, 2) := by decide +kernel
theorem dX7_days_51 : decode cX7_days 51 = .ok (.bipush 12, 2) := by decide +kernel
theorem dX7_days_53 : decode cX7_days 53 = .ok (.if_icmp .ge 22, 3) := by decide +kernel
theorem dX7_days_56 : decode cX7_days 56 = .ok (.aload_n 0, 1) := by decide +kernel
theorem dX7_days_57 : decode cX7_days 57 = .ok (.getfield 45, 3) := by decide +kernel
theorem dX7_days_60 : decode cX7_days 60 = .ok (.aload_n 0, 1) := by decide +kernel
theorem dX7_days_61 : decode cX7_days 61 = .ok (.getfield 36, 3) := by decide +kernel
theorem dX7_days_64 : decode cX7_days 64 = .ok (.iload 4, 2) := by decide +kernel
theorem dX7_days_66 : decode cX7_days 66 = .ok (.invokevirtual 205, 3) := by decide +kernel
theorem dX7_days_69 : decode cX7_days 69 = .ok (.iinc 4 1, 3) := by decide +kernel
theorem dX7_days_72 : decode cX7_days 72 = .ok (.goto (-23), 3) := by decide +kernel
theorem dX7_days_75 : decode cX7_days 75 = .ok (.aload_n 0, 1) := by decide +kernel
theorem dX7_days_76 : decode cX7_days 76 = .ok (.getfield 45, 3) := by decide +kernel
theorem dX7_days_79 : decode cX7_days 79 = .ok (.invokevirtual 209, 3) := by decide +kernel
theorem dX7_days_82 : decode cX7_days 82 = .ok (.iinc 3 1, 3) := by decide +kernel
theorem dX7_days_85 : decode cX7_days 85 = .ok (.goto (-44), 3) := by decide +kernel
theorem dX7_days_88 : decode cX7_days 88 = .ok (.aload_n 0, 1) := by decide +kernel
theorem dX7_days_89 : decode cX7_days 89 = .ok (.getfield 45, 3) := by decide +kernel
theorem dX7_days_92 : decode cX7_days 92 = .ok (.getfield 200, 3) := by decide +kernel
theorem dX7_days_95 : decode cX7_days 95 = .ok (.iload_n 2, 1) := by decide +kernel
theorem dX7_days_96 : decode cX7_days 96 = .ok (.isub, 1) := by decide +kernel
theorem dX7_days_97 : decode cX7_days 97 = .ok (.ireturn, 1) := by decide +kernel
theorem dX7_keep_0 : decode cX7_keep 0 = .ok (.aload_n 0, 1) := by decide +kernel
theorem dX7_keep_1 : decode cX7_keep 1 = .ok (.iload_n 1, 1) := by decide +kernel
theorem dX7_keep_2 : decode cX7_keep 2 = .ok (.invokevirtual 212, 3) := by decide +kernel
theorem dX7_keep_5 : decode cX7_keep 5 = .ok (.iload 4, 2) := by decide +kernel
theorem dX7_keep_7 : decode cX7_keep 7 = .ok (.ifCond .eq 19, 3) := by decide +kernel
theorem dX7_keep_10 : decode cX7_keep 10 = .ok (.iload 4, 2) := by decide +kernel
theorem dX7_keep_12 : decode cX7_keep 12 = .ok (.iconst 1, 1) := by decide +kernel
theorem dX7_keep_13 : decode cX7_keep 13 = .ok (.if_icmp .eq 13, 3) := by decide +kernel
theorem dX7_keep_16 : decode cX7_keep 16 = .ok (.new 140, 3) := by decide +kernel
theorem dX7_keep_19 : decode cX7_keep 19 = .ok (.dup, 1) := by decide +kernel
theorem dX7_keep_20 : decode cX7_keep 20 = .ok (.ldc 215, 2) := by decide +kernel
theorem dX7_keep_22 : decode cX7_keep 22 = .ok (.invokespecial 144, 3) := by decide +kernel
theorem dX7_keep_25 : decode cX7_keep 25 = .ok (.athrow, 1) := by decide +kernel
theorem dX7_keep_26 : decode cX7_keep 26 = .ok (.aload_n 0, 1) := by decide +kernel
theorem dX7_keep_27 : decode cX7_keep 27 = .ok (.iload_n 2, 1) := by decide +kernel
theorem dX7_keep_28 : decode cX7_keep 28 = .ok (.sipush 400, 3) := by decide +kernel
theorem dX7_keep_31 : decode cX7_keep 31 = .ok (.invokevirtual 217, 3) := by decide +kernel
theorem dX7_keep_34 : decode cX7_keep 34 = .ok (.aload_n 0, 1) := by decide +kernel
theorem dX7_keep_35 : decode cX7_keep 35 = .ok (.iload_n 3, 1) := by decide +kernel
theorem dX7_keep_36 : decode cX7_keep 36 = .ok (.invokevirtual 221, 3) := by decide +kernel
theorem dX7_keep_39 : decode cX7_keep 39 = .ok (.aload_n 0, 1) := by decide +kernel
theorem dX7_keep_40 : decode cX7_keep 40 = .ok (.getfield 66, 3) := by decide +kernel
theorem dX7_keep_43 : decode cX7_keep 43 = .ok (.iload_n 3, 1) := by decide +kernel
theorem dX7_keep_44 : decode cX7_keep 44 = .ok (.iload 4, 2) := by decide +kernel
theorem dX7_keep_46 : decode cX7_keep 46 = .ok (.ifCond .ne 7, 3) := by decide +kernel
theorem dX7_keep_49 : decode cX7_keep 49 = .ok (.iconst 1, 1) := by decide +kernel
theorem dX7_keep_50 : decode cX7_keep 50 = .ok (.goto 4, 3) := by decide +kernel
theorem dX7_keep_53 : decode cX7_keep 53 = .ok (.iconst 0, 1) := by decide +kernel
theorem dX7_keep_54 : decode cX7_keep 54 = .ok (.invokevirtual 224, 3) := by decide +kernel
theorem dX7_keep_57 : decode cX7_keep 57 = .ok (.aload_n 0, 1) := by decide +kernel
theorem dX7_keep_58 : decode cX7_keep 58 = .ok (.getfield 66, 3) := by decide +kernel
theorem dX7_keep_61 : decode cX7_keep 61 = .ok (.aload_n 0, 1) := by decide +kernel
theorem dX7_keep_62 : decode cX7_keep 62 = .ok (.getfield 45, 3) := by decide +kernel
theorem dX7_keep_65 : decode cX7_keep 65 = .ok (.getfield 189, 3) := by decide +kernel
theorem dX7_keep_68 : decode cX7_keep 68 = .ok (.iload_n 1, 1) := by decide +kernel
theorem dX7_keep_69 : decode cX7_keep 69 = .ok (.iaload, 1) := by decide +kernel
theorem dX7_keep_70 : decode cX7_keep 70 = .ok (.iload_n 2, 1) := by decide +kernel
theorem dX7_keep_71 : decode cX7_keep 71 = .ok (.invokevirtual 228, 3) := by decide +kernel
theorem dX7_keep_74 : decode cX7_keep 74 = .ok (.istore 5, 2) := by decide +kernel
theorem dX7_keep_76 : decode cX7_keep 76 = .ok (.iload 5, 2) := by decide +kernel
theorem dX7_keep_78 : decode cX7_keep 78 = .ok (.iconst (-1), 1) := by decide +kernel
theorem dX7_keep_79 : decode cX7_keep 79 = .ok (.if_icmp .ne 5, 3) := by decide +kernel
theorem dX7_keep_82 : decode cX7_keep 82 = .ok (.iconst (-1), 1) := by decide +kernel
theorem dX7_keep_83 : decode cX7_keep 83 = .ok (.ireturn, 1) := by decide +kernel
theorem dX7_keep_84 : decode cX7_keep 84 = .ok (.aload_n 0, 1) := by decide +kernel
theorem dX7_keep_85 : decode cX7_keep 85 = .ok (.getfield 66, 3) := by decide +kernel
theorem dX7_keep_88 : decode cX7_keep 88 = .ok (.aload_n 0, 1) := by decide +kernel
theorem dX7_keep_89 : decode cX7_keep 89 = .ok (.getfield 70, 3) := by decide +kernel
theorem dX7_keep_92 : decode cX7_keep 92 = .ok (.invokevirtual 232, 3) := by decide +kernel
theorem dX7_keep_95 : decode cX7_keep 95 = .ok (.aload_n 0, 1) := by decide +kernel
theorem dX7_keep_96 : decode cX7_keep 96 = .ok (.iconst 1, 1) := by decide +kernel
theorem dX7_keep_97 : decode cX7_keep 97 = .ok (.putfield 109, 3) := by decide +kernel
theorem dX7_keep_100 : decode cX7_keep 100 = .ok (.iload 5, 2) := by decide +kernel
theorem dX7_keep_102 : decode cX7_keep 102 = .ok (.ireturn, 1) := by decide +kernel
theorem dX7_kept_0 : decode cX7_kept 0 = .ok (.aload_n 0, 1) := by decide +kernel
theorem dX7_kept_1 : decode cX7_kept 1 = .ok (.iload_n 1, 1) := by decide +kernel
theorem dX7_kept_2 : decode cX7_kept 2 = .ok (.invokevirtual 151, 3) := by decide +kernel
theorem dX7_kept_5 : decode cX7_kept 5 = .ok (.aload_n 0, 1) := by decide +kernel
theorem dX7_kept_6 : decode cX7_kept 6 = .ok (.getfield 109, 3) := by decide +kernel
theorem dX7_kept_9 : decode cX7_kept 9 = .ok (.ifCond .ne 13, 3) := by decide +kernel
theorem dX7_kept_12 : decode cX7_kept 12 = .ok (.new 140, 3) := by decide +kernel
theorem dX7_kept_15 : decode cX7_kept 15 = .ok (.dup, 1) := by decide +kernel
theorem dX7_kept_16 : decode cX7_kept 16 = .ok (.ldc 236, 2) := by decide +kernel
theorem dX7_kept_18 : decode cX7_kept 18 = .ok (.invokespecial 144, 3) := by decide +kernel
theorem dX7_kept_21 : decode cX7_kept 21 = .ok (.athrow, 1) := by decide +kernel
theorem dX7_kept_22 : decode cX7_kept 22 = .ok (.aload_n 0, 1) := by decide +kernel
theorem dX7_kept_23 : decode cX7_kept 23 = .ok (.getfield 70, 3) := by decide +kernel
theorem dX7_kept_26 : decode cX7_kept 26 = .ok (.iload_n 1, 1) := by decide +kernel
theorem dX7_kept_27 : decode cX7_kept 27 = .ok (.iaload, 1) := by decide +kernel
theorem dX7_kept_28 : decode cX7_kept 28 = .ok (.ireturn, 1) := by decide +kernel
theorem dX7_silence_0 : decode cX7_silence 0 = .ok (.aload_n 0, 1) := by decide +kernel
theorem dX7_silence_1 : decode cX7_silence 1 = .ok (.iload_n 1, 1) := by decide +kernel
theorem dX7_silence_2 : decode cX7_silence 2 = .ok (.invokevirtual 212, 3) := by decide +kernel
theorem dX7_silence_5 : decode cX7_silence 5 = .ok (.aload_n 0, 1) := by decide +kernel
theorem dX7_silence_6 : decode cX7_silence 6 = .ok (.iload_n 2, 1) := by decide +kernel
theorem dX7_silence_7 : decode cX7_silence 7 = .ok (.bipush 60, 2) := by decide +kernel
theorem dX7_silence_9 : decode cX7_silence 9 = .ok (.invokevirtual 217, 3) := by decide +kernel
theorem dX7_silence_12 : decode cX7_silence 12 = .ok (.aload_n 0, 1) := by decide +kernel
theorem dX7_silence_13 : decode cX7_silence 13 = .ok (.iload_n 1, 1) := by decide +kernel
theorem dX7_silence_14 : decode cX7_silence 14 = .ok (.invokevirtual 238, 3) := by decide +kernel
theorem dX7_silence_17 : decode cX7_silence 17 = .ok (.ireturn, 1) := by decide +kernel
theorem dX7_stands_0 : decode cX7_stands 0 = .ok (.aload_n 0, 1) := by decide +kernel
theorem dX7_stands_1 : decode cX7_stands 1 = .ok (.iload_n 1, 1) := by decide +kernel
theorem dX7_stands_2 : decode cX7_stands 2 = .ok (.invokevirtual 212, 3) := by decide +kernel
theorem dX7_stands_5 : decode cX7_stands 5 = .ok (.aload_n 0, 1) := by decide +kernel
theorem dX7_stands_6 : decode cX7_stands 6 = .ok (.iload_n 2, 1) := by decide +kernel
theorem dX7_stands_7 : decode cX7_stands 7 = .ok (.invokevirtual 221, 3) := by decide +kernel
theorem dX7_stands_10 : decode cX7_stands 10 = .ok (.aload_n 0, 1) := by decide +kernel
theorem dX7_stands_11 : decode cX7_stands 11 = .ok (.iload_n 1, 1) := by decide +kernel
theorem dX7_stands_12 : decode cX7_stands 12 = .ok (.invokevirtual 238, 3) := by decide +kernel
theorem dX7_stands_15 : decode cX7_stands 15 = .ok (.iload_n 2, 1) := by decide +kernel
theorem dX7_stands_16 : decode cX7_stands 16 = .ok (.iconst (-1), 1) := by decide +kernel
theorem dX7_stands_17 : decode cX7_stands 17 = .ok (.ixor, 1) := by decide +kernel
theorem dX7_stands_18 : decode cX7_stands 18 = .ok (.iand, 1) := by decide +kernel
theorem dX7_stands_19 : decode cX7_stands 19 = .ok (.ifCond .eq 8, 3) := by decide +kernel
theorem dX7_stands_22 : decode cX7_stands 22 = .ok (.bipush 60, 2) := by decide +kernel
theorem dX7_stands_24 : decode cX7_stands 24 = .ok (.goto 4, 3) := by decide +kernel
theorem dX7_stands_27 : decode cX7_stands 27 = .ok (.iconst 0, 1) := by decide +kernel
theorem dX7_stands_28 : decode cX7_stands 28 = .ok (.ireturn, 1) := by decide +kernel
theorem dX7_pairs_0 : decode cX7_pairs 0 = .ok (.aload_n 0, 1) := by decide +kernel
theorem dX7_pairs_1 : decode cX7_pairs 1 = .ok (.iload_n 1, 1) := by decide +kernel
theorem dX7_pairs_2 : decode cX7_pairs 2 = .ok (.invokevirtual 212, 3) := by decide +kernel
theorem dX7_pairs_5 : decode cX7_pairs 5 = .ok (.aload_n 0, 1) := by decide +kernel
theorem dX7_pairs_6 : decode cX7_pairs 6 = .ok (.iload_n 2, 1) := by decide +kernel
theorem dX7_pairs_7 : decode cX7_pairs 7 = .ok (.bipush 60, 2) := by decide +kernel
theorem dX7_pairs_9 : decode cX7_pairs 9 = .ok (.invokevirtual 217, 3) := by decide +kernel
theorem dX7_pairs_12 : decode cX7_pairs 12 = .ok (.aload_n 0, 1) := by decide +kernel
theorem dX7_pairs_13 : decode cX7_pairs 13 = .ok (.iload_n 1, 1) := by decide +kernel
theorem dX7_pairs_14 : decode cX7_pairs 14 = .ok (.invokevirtual 238, 3) := by decide +kernel
theorem dX7_pairs_17 : decode cX7_pairs 17 = .ok (.istore_n 3, 1) := by decide +kernel
theorem dX7_pairs_18 : decode cX7_pairs 18 = .ok (.iconst 0, 1) := by decide +kernel
theorem dX7_pairs_19 : decode cX7_pairs 19 = .ok (.istore 4, 2) := by decide +kernel
theorem dX7_pairs_21 : decode cX7_pairs 21 = .ok (.iconst 0, 1) := by decide +kernel
theorem dX7_pairs_22 : decode cX7_pairs 22 = .ok (.istore 5, 2) := by decide +kernel
theorem dX7_pairs_24 : decode cX7_pairs 24 = .ok (.iload 5, 2) := by decide +kernel
theorem dX7_pairs_26 : decode cX7_pairs 26 = .ok (.aload_n 0, 1) := by decide +kernel
theorem dX7_pairs_27 : decode cX7_pairs 27 = .ok (.getfield 29, 3) := by decide +kernel
theorem dX7_pairs_30 : decode cX7_pairs 30 = .ok (.getfield 122, 3) := by decide +kernel
theorem dX7_pairs_33 : decode cX7_pairs 33 = .ok (.if_icmp .ge 46, 3) := by decide +kernel
theorem dX7_pairs_36 : decode cX7_pairs 36 = .ok (.iconst 0, 1) := by decide +kernel
theorem dX7_pairs_37 : decode cX7_pairs 37 = .ok (.istore 6, 2) := by decide +kernel
theorem dX7_pairs_39 : decode cX7_pairs 39 = .ok (.iload 6, 2) := by decide +kernel
theorem dX7_pairs_41 : decode cX7_pairs 41 = .ok (.iload 5, 2) := by decide +kernel
theorem dX7_pairs_43 : decode cX7_pairs 43 = .ok (.if_icmp .ge 30, 3) := by decide +kernel
theorem dX7_pairs_46 : decode cX7_pairs 46 = .ok (.iconst 1, 1) := by decide +kernel
theorem dX7_pairs_47 : decode cX7_pairs 47 = .ok (.iload 5, 2) := by decide +kernel
theorem dX7_pairs_49 : decode cX7_pairs 49 = .ok (.ishl, 1) := by decide +kernel
theorem dX7_pairs_50 : decode cX7_pairs 50 = .ok (.iconst 1, 1) := by decide +kernel
theorem dX7_pairs_51 : decode cX7_pairs 51 = .ok (.iload 6, 2) := by decide +kernel
theorem dX7_pairs_53 : decode cX7_pairs 53 = .ok (.ishl, 1) := by decide +kernel
theorem dX7_pairs_54 : decode cX7_pairs 54 = .ok (.ior, 1) := by decide +kernel
theorem dX7_pairs_55 : decode cX7_pairs 55 = .ok (.istore 7, 2) := by decide +kernel
theorem dX7_pairs_57 : decode cX7_pairs 57 = .ok (.iload_n 3, 1) := by decide +kernel
theorem dX7_pairs_58 : decode cX7_pairs 58 = .ok (.iload 7, 2) := by decide +kernel
theorem dX7_pairs_60 : decode cX7_pairs 60 = .ok (.iand, 1) := by decide +kernel
theorem dX7_pairs_61 : decode cX7_pairs 61 = .ok (.ifCond .eq 6, 3) := by decide +kernel
theorem dX7_pairs_64 : decode cX7_pairs 64 = .ok (.iinc 4 1, 3) := by decide +kernel
theorem dX7_pairs_67 : decode cX7_pairs 67 = .ok (.iinc 6 1, 3) := by decide +kernel
theorem dX7_pairs_70 : decode cX7_pairs 70 = .ok (.goto (-31), 3) := by decide +kernel
theorem dX7_pairs_73 : decode cX7_pairs 73 = .ok (.iinc 5 1, 3) := by decide +kernel
theorem dX7_pairs_76 : decode cX7_pairs 76 = .ok (.goto (-52), 3) := by decide +kernel
theorem dX7_pairs_79 : decode cX7_pairs 79 = .ok (.iload 4, 2) := by decide +kernel
theorem dX7_pairs_81 : decode cX7_pairs 81 = .ok (.ireturn, 1) := by decide +kernel
theorem dX7_tale_0 : decode cX7_tale 0 = .ok (.aload_n 0, 1) := by decide +kernel
theorem dX7_tale_1 : decode cX7_tale 1 = .ok (.iload_n 1, 1) := by decide +kernel
theorem dX7_tale_2 : decode cX7_tale 2 = .ok (.iload_n 2, 1) := by decide +kernel
theorem dX7_tale_3 : decode cX7_tale 3 = .ok (.iload_n 3, 1) := by decide +kernel
theorem dX7_tale_4 : decode cX7_tale 4 = .ok (.iload 4, 2) := by decide +kernel
theorem dX7_tale_6 : decode cX7_tale 6 = .ok (.invokevirtual 241, 3) := by decide +kernel
theorem dX7_tale_9 : decode cX7_tale 9 = .ok (.aload_n 0, 1) := by decide +kernel
theorem dX7_tale_10 : decode cX7_tale 10 = .ok (.getfield 59, 3) := by decide +kernel
theorem dX7_tale_13 : decode cX7_tale 13 = .ok (.aload_n 0, 1) := by decide +kernel
theorem dX7_tale_14 : decode cX7_tale 14 = .ok (.getfield 36, 3) := by decide +kernel
theorem dX7_tale_17 : decode cX7_tale 17 = .ok (.invokevirtual 244, 3) := by decide +kernel
theorem dX7_tale_20 : decode cX7_tale 20 = .ok (.aload_n 0, 1) := by decide +kernel
theorem dX7_tale_21 : decode cX7_tale 21 = .ok (.getfield 59, 3) := by decide +kernel
theorem dX7_tale_24 : decode cX7_tale 24 = .ok (.iload_n 1, 1) := by decide +kernel
theorem dX7_tale_25 : decode cX7_tale 25 = .ok (.iload_n 2, 1) := by decide +kernel
theorem dX7_tale_26 : decode cX7_tale 26 = .ok (.iload_n 3, 1) := by decide +kernel
theorem dX7_tale_27 : decode cX7_tale 27 = .ok (.bipush 12, 2) := by decide +kernel
theorem dX7_tale_29 : decode cX7_tale 29 = .ok (.imul, 1) := by decide +kernel
theorem dX7_tale_30 : decode cX7_tale 30 = .ok (.iload 4, 2) := by decide +kernel
theorem dX7_tale_32 : decode cX7_tale 32 = .ok (.iadd, 1) := by decide +kernel
theorem dX7_tale_33 : decode cX7_tale 33 = .ok (.invokevirtual 248, 3) := by decide +kernel
theorem dX7_tale_36 : decode cX7_tale 36 = .ok (.ireturn, 1) := by decide +kernel
theorem dX7_lacks_0 : decode cX7_lacks 0 = .ok (.aload_n 0, 1) := by decide +kernel
theorem dX7_lacks_1 : decode cX7_lacks 1 = .ok (.iload_n 1, 1) := by decide +kernel
theorem dX7_lacks_2 : decode cX7_lacks 2 = .ok (.iload_n 2, 1) := by decide +kernel
theorem dX7_lacks_3 : decode cX7_lacks 3 = .ok (.iload_n 3, 1) := by decide +kernel
theorem dX7_lacks_4 : decode cX7_lacks 4 = .ok (.iload 4, 2) := by decide +kernel
theorem dX7_lacks_6 : decode cX7_lacks 6 = .ok (.invokevirtual 241, 3) := by decide +kernel
theorem dX7_lacks_9 : decode cX7_lacks 9 = .ok (.aload_n 0, 1) := by decide +kernel
theorem dX7_lacks_10 : decode cX7_lacks 10 = .ok (.getfield 59, 3) := by decide +kernel
theorem dX7_lacks_13 : decode cX7_lacks 13 = .ok (.aload_n 0, 1) := by decide +kernel
theorem dX7_lacks_14 : decode cX7_lacks 14 = .ok (.getfield 36, 3) := by decide +kernel
theorem dX7_lacks_17 : decode cX7_lacks 17 = .ok (.invokevirtual 244, 3) := by decide +kernel
theorem dX7_lacks_20 : decode cX7_lacks 20 = .ok (.iload_n 3, 1) := by decide +kernel
theorem dX7_lacks_21 : decode cX7_lacks 21 = .ok (.bipush 12, 2) := by decide +kernel
theorem dX7_lacks_23 : decode cX7_lacks 23 = .ok (.imul, 1) := by decide +kernel
theorem dX7_lacks_24 : decode cX7_lacks 24 = .ok (.iload 4, 2) := by decide +kernel
theorem dX7_lacks_26 : decode cX7_lacks 26 = .ok (.iadd, 1) := by decide +kernel
theorem dX7_lacks_27 : decode cX7_lacks 27 = .ok (.istore 5, 2) := by decide +kernel
theorem dX7_lacks_29 : decode cX7_lacks 29 = .ok (.aload_n 0, 1) := by decide +kernel
theorem dX7_lacks_30 : decode cX7_lacks 30 = .ok (.getfield 59, 3) := by decide +kernel
theorem dX7_lacks_33 : decode cX7_lacks 33 = .ok (.iload_n 1, 1) := by decide +kernel
theorem dX7_lacks_34 : decode cX7_lacks 34 = .ok (.iload_n 2, 1) := by decide +kernel
theorem dX7_lacks_35 : decode cX7_lacks 35 = .ok (.iload 5, 2) := by decide +kernel
theorem dX7_lacks_37 : decode cX7_lacks 37 = .ok (.invokevirtual 248, 3) := by decide +kernel
theorem dX7_lacks_40 : decode cX7_lacks 40 = .ok (.ifCond .eq 5, 3) := by decide +kernel
theorem dX7_lacks_43 : decode cX7_lacks 43 = .ok (.iconst (-1), 1) := by decide +kernel
theorem dX7_lacks_44 : decode cX7_lacks 44 = .ok (.ireturn, 1) := by decide +kernel
theorem dX7_lacks_45 : decode cX7_lacks 45 = .ok (.aload_n 0, 1) := by decide +kernel
theorem dX7_lacks_46 : decode cX7_lacks 46 = .ok (.getfield 59, 3) := by decide +kernel
theorem dX7_lacks_49 : decode cX7_lacks 49 = .ok (.iload_n 2, 1) := by decide +kernel
theorem dX7_lacks_50 : decode cX7_lacks 50 = .ok (.iload 5, 2) := by decide +kernel
theorem dX7_lacks_52 : decode cX7_lacks 52 = .ok (.invokevirtual 252, 3) := by decide +kernel
theorem dX7_lacks_55 : decode cX7_lacks 55 = .ok (.ireturn, 1) := by decide +kernel
theorem dX7_image_0 : decode cX7_image 0 = .ok (.aload_n 0, 1) := by decide +kernel
theorem dX7_image_1 : decode cX7_image 1 = .ok (.getfield 52, 3) := by decide +kernel
theorem dX7_image_4 : decode cX7_image 4 = .ok (.iconst 1, 1) := by decide +kernel
theorem dX7_image_5 : decode cX7_image 5 = .ok (.putfield 113, 3) := by decide +kernel
theorem dX7_image_8 : decode cX7_image 8 = .ok (.aload_n 0, 1) := by decide +kernel
theorem dX7_image_9 : decode cX7_image 9 = .ok (.getfield 52, 3) := by decide +kernel
theorem dX7_image_12 : decode cX7_image 12 = .ok (.getfield 255, 3) := by decide +kernel
theorem dX7_image_15 : decode cX7_image 15 = .ok (.aload_n 0, 1) := by decide +kernel
theorem dX7_image_16 : decode cX7_image 16 = .ok (.getfield 45, 3) := by decide +kernel
theorem dX7_image_19 : decode cX7_image 19 = .ok (.invokevirtual 256, 3) := by decide +kernel
theorem dX7_image_22 : decode cX7_image 22 = .ok (.aload_n 0, 1) := by decide +kernel
theorem dX7_image_23 : decode cX7_image 23 = .ok (.getfield 52, 3) := by decide +kernel
theorem dX7_image_26 : decode cX7_image 26 = .ok (.getfield 259, 3) := by decide +kernel
theorem dX7_image_29 : decode cX7_image 29 = .ok (.aload_n 0, 1) := by decide +kernel
theorem dX7_image_30 : decode cX7_image 30 = .ok (.getfield 36, 3) := by decide +kernel
theorem dX7_image_33 : decode cX7_image 33 = .ok (.invokevirtual 260, 3) := by decide +kernel
theorem dX7_image_36 : decode cX7_image 36 = .ok (.aload_n 0, 1) := by decide +kernel
theorem dX7_image_37 : decode cX7_image 37 = .ok (.getfield 52, 3) := by decide +kernel
theorem dX7_image_40 : decode cX7_image 40 = .ok (.aload_n 0, 1) := by decide +kernel
theorem dX7_image_41 : decode cX7_image 41 = .ok (.getfield 93, 3) := by decide +kernel
theorem dX7_image_44 : decode cX7_image 44 = .ok (.putfield 262, 3) := by decide +kernel
theorem dX7_image_47 : decode cX7_image 47 = .ok (.aload_n 0, 1) := by decide +kernel
theorem dX7_image_48 : decode cX7_image 48 = .ok (.getfield 52, 3) := by decide +kernel
theorem dX7_image_51 : decode cX7_image 51 = .ok (.aload_n 0, 1) := by decide +kernel
theorem dX7_image_52 : decode cX7_image 52 = .ok (.getfield 137, 3) := by decide +kernel
theorem dX7_image_55 : decode cX7_image 55 = .ok (.putfield 263, 3) := by decide +kernel
theorem dX7_image_58 : decode cX7_image 58 = .ok (.return_, 1) := by decide +kernel
theorem dX7_restore_0 : decode cX7_restore 0 = .ok (.aload_n 0, 1) := by decide +kernel
theorem dX7_restore_1 : decode cX7_restore 1 = .ok (.getfield 52, 3) := by decide +kernel
theorem dX7_restore_4 : decode cX7_restore 4 = .ok (.getfield 113, 3) := by decide +kernel
theorem dX7_restore_7 : decode cX7_restore 7 = .ok (.ifCond .ne 5, 3) := by decide +kernel
theorem dX7_restore_10 : decode cX7_restore 10 = .ok (.iconst 0, 1) := by decide +kernel
theorem dX7_restore_11 : decode cX7_restore 11 = .ok (.ireturn, 1) := by decide +kernel
theorem dX7_restore_12 : decode cX7_restore 12 = .ok (.aload_n 0, 1) := by decide +kernel
theorem dX7_restore_13 : decode cX7_restore 13 = .ok (.getfield 45, 3) := by decide +kernel
theorem dX7_restore_16 : decode cX7_restore 16 = .ok (.aload_n 0, 1) := by decide +kernel
theorem dX7_restore_17 : decode cX7_restore 17 = .ok (.getfield 52, 3) := by decide +kernel
theorem dX7_restore_20 : decode cX7_restore 20 = .ok (.getfield 255, 3) := by decide +kernel
theorem dX7_restore_23 : decode cX7_restore 23 = .ok (.invokevirtual 256, 3) := by decide +kernel
theorem dX7_restore_26 : decode cX7_restore 26 = .ok (.aload_n 0, 1) := by decide +kernel
theorem dX7_restore_27 : decode cX7_restore 27 = .ok (.getfield 36, 3) := by decide +kernel
theorem dX7_restore_30 : decode cX7_restore 30 = .ok (.aload_n 0, 1) := by decide +kernel
theorem dX7_restore_31 : decode cX7_restore 31 = .ok (.getfield 52, 3) := by decide +kernel
theorem dX7_restore_34 : decode cX7_restore 34 = .ok (.getfield 259, 3) := by decide +kernel
theorem dX7_restore_37 : decode cX7_restore 37 = .ok (.invokevirtual 260, 3) := by decide +kernel
theorem dX7_restore_40 : decode cX7_restore 40 = .ok (.aload_n 0, 1) := by decide +kernel
theorem dX7_restore_41 : decode cX7_restore 41 = .ok (.aload_n 0, 1) := by decide +kernel
theorem dX7_restore_42 : decode cX7_restore 42 = .ok (.getfield 52, 3) := by decide +kernel
theorem dX7_restore_45 : decode cX7_restore 45 = .ok (.getfield 262, 3) := by decide +kernel
theorem dX7_restore_48 : decode cX7_restore 48 = .ok (.putfield 93, 3) := by decide +kernel
theorem dX7_restore_51 : decode cX7_restore 51 = .ok (.aload_n 0, 1) := by decide +kernel
theorem dX7_restore_52 : decode cX7_restore 52 = .ok (.aload_n 0, 1) := by decide +kernel
theorem dX7_restore_53 : decode cX7_restore 53 = .ok (.getfield 52, 3) := by decide +kernel
theorem dX7_restore_56 : decode cX7_restore 56 = .ok (.getfield 263, 3) := by decide +kernel
theorem dX7_restore_59 : decode cX7_restore 59 = .ok (.putfield 137, 3) := by decide +kernel
theorem dX7_restore_62 : decode cX7_restore 62 = .ok (.aload_n 0, 1) := by decide +kernel
theorem dX7_restore_63 : decode cX7_restore 63 = .ok (.getfield 59, 3) := by decide +kernel
theorem dX7_restore_66 : decode cX7_restore 66 = .ok (.iconst 0, 1) := by decide +kernel
theorem dX7_restore_67 : decode cX7_restore 67 = .ok (.putfield 119, 3) := by decide +kernel
theorem dX7_restore_70 : decode cX7_restore 70 = .ok (.iconst 1, 1) := by decide +kernel
theorem dX7_restore_71 : decode cX7_restore 71 = .ok (.ireturn, 1) := by decide +kernel
theorem dX7_keepersOf_0 : decode cX7_keepersOf 0 = .ok (.aload_n 0, 1) := by decide +kernel
theorem dX7_keepersOf_1 : decode cX7_keepersOf 1 = .ok (.getfield 45, 3) := by decide +kernel
theorem dX7_keepersOf_4 : decode cX7_keepersOf 4 = .ok (.getfield 189, 3) := by decide +kernel
theorem dX7_keepersOf_7 : decode cX7_keepersOf 7 = .ok (.iload_n 1, 1) := by decide +kernel
theorem dX7_keepersOf_8 : decode cX7_keepersOf 8 = .ok (.iaload, 1) := by decide +kernel
theorem dX7_keepersOf_9 : decode cX7_keepersOf 9 = .ok (.aload_n 0, 1) := by decide +kernel
theorem dX7_keepersOf_10 : decode cX7_keepersOf 10 = .ok (.getfield 29, 3) := by decide +kernel
theorem dX7_keepersOf_13 : decode cX7_keepersOf 13 = .ok (.getfield 264, 3) := by decide +kernel
theorem dX7_keepersOf_16 : decode cX7_keepersOf 16 = .ok (.iand, 1) := by decide +kernel
theorem dX7_keepersOf_17 : decode cX7_keepersOf 17 = .ok (.ireturn, 1) := by decide +kernel
theorem dX7_requirePerson_0 : decode cX7_requirePerson 0 = .ok (.iload_n 1, 1) := by decide +kernel
theorem dX7_requirePerson_1 : decode cX7_requirePerson 1 = .ok (.ifCond .lt 14, 3) := by decide +kernel
theorem dX7_requirePerson_4 : decode cX7_requirePerson 4 = .ok (.iload_n 1, 1) := by decide +kernel
theorem dX7_requirePerson_5 : decode cX7_requirePerson 5 = .ok (.aload_n 0, 1) := by decide +kernel
theorem dX7_requirePerson_6 : decode cX7_requirePerson 6 = .ok (.getfield 29, 3) := by decide +kernel
theorem dX7_requirePerson_9 : decode cX7_requirePerson 9 = .ok (.getfield 122, 3) := by decide +kernel
theorem dX7_requirePerson_12 : decode cX7_requirePerson 12 = .ok (.if_icmp .lt 14, 3) := by decide +kernel
theorem dX7_requirePerson_15 : decode cX7_requirePerson 15 = .ok (.new 140, 3) := by decide +kernel
theorem dX7_requirePerson_18 : decode cX7_requirePerson 18 = .ok (.dup, 1) := by decide +kernel
theorem dX7_requirePerson_19 : decode cX7_requirePerson 19 = .ok (.ldc_w 267, 3) := by decide +kernel
theorem dX7_requirePerson_22 : decode cX7_requirePerson 22 = .ok (.invokespecial 144, 3) := by decide +kernel
theorem dX7_requirePerson_25 : decode cX7_requirePerson 25 = .ok (.athrow, 1) := by decide +kernel
theorem dX7_requirePerson_26 : decode cX7_requirePerson 26 = .ok (.return_, 1) := by decide +kernel
theorem dX7_requireMeeting_0 : decode cX7_requireMeeting 0 = .ok (.iload_n 1, 1) := by decide +kernel
theorem dX7_requireMeeting_1 : decode cX7_requireMeeting 1 = .ok (.ifCond .lt 14, 3) := by decide +kernel
theorem dX7_requireMeeting_4 : decode cX7_requireMeeting 4 = .ok (.iload_n 1, 1) := by decide +kernel
theorem dX7_requireMeeting_5 : decode cX7_requireMeeting 5 = .ok (.aload_n 0, 1) := by decide +kernel
theorem dX7_requireMeeting_6 : decode cX7_requireMeeting 6 = .ok (.getfield 29, 3) := by decide +kernel
theorem dX7_requireMeeting_9 : decode cX7_requireMeeting 9 = .ok (.getfield 125, 3) := by decide +kernel
theorem dX7_requireMeeting_12 : decode cX7_requireMeeting 12 = .ok (.if_icmp .lt 14, 3) := by decide +kernel
theorem dX7_requireMeeting_15 : decode cX7_requireMeeting 15 = .ok (.new 140, 3) := by decide +kernel
theorem dX7_requireMeeting_18 : decode cX7_requireMeeting 18 = .ok (.dup, 1) := by decide +kernel
theorem dX7_requireMeeting_19 : decode cX7_requireMeeting 19 = .ok (.ldc_w 269, 3) := by decide +kernel
theorem dX7_requireMeeting_22 : decode cX7_requireMeeting 22 = .ok (.invokespecial 144, 3) := by decide +kernel
theorem dX7_requireMeeting_25 : decode cX7_requireMeeting 25 = .ok (.athrow, 1) := by decide +kernel
theorem dX7_requireMeeting_26 : decode cX7_requireMeeting 26 = .ok (.return_, 1) := by decide +kernel
theorem dX7_requirePromise_0 : decode cX7_requirePromise 0 = .ok (.iload_n 1, 1) := by decide +kernel
theorem dX7_requirePromise_1 : decode cX7_requirePromise 1 = .ok (.ifCond .lt 14, 3) := by decide +kernel
theorem dX7_requirePromise_4 : decode cX7_requirePromise 4 = .ok (.iload_n 1, 1) := by decide +kernel
theorem dX7_requirePromise_5 : decode cX7_requirePromise 5 = .ok (.aload_n 0, 1) := by decide +kernel
theorem dX7_requirePromise_6 : decode cX7_requirePromise 6 = .ok (.getfield 29, 3) := by decide +kernel
theorem dX7_requirePromise_9 : decode cX7_requirePromise 9 = .ok (.getfield 128, 3) := by decide +kernel
theorem dX7_requirePromise_12 : decode cX7_requirePromise 12 = .ok (.if_icmp .lt 14, 3) := by decide +kernel
theorem dX7_requirePromise_15 : decode cX7_requirePromise 15 = .ok (.new 140, 3) := by decide +kernel
theorem dX7_requirePromise_18 : decode cX7_requirePromise 18 = .ok (.dup, 1) := by decide +kernel
theorem dX7_requirePromise_19 : decode cX7_requirePromise 19 = .ok (.ldc_w 271, 3) := by decide +kernel
theorem dX7_requirePromise_22 : decode cX7_requirePromise 22 = .ok (.invokespecial 144, 3) := by decide +kernel
theorem dX7_requirePromise_25 : decode cX7_requirePromise 25 = .ok (.athrow, 1) := by decide +kernel
theorem dX7_requirePromise_26 : decode cX7_requirePromise 26 = .ok (.return_, 1) := by decide +kernel
theorem dX7_requireStanding_0 : decode cX7_requireStanding 0 = .ok (.aload_n 0, 1) := by decide +kernel
theorem dX7_requireStanding_1 : decode cX7_requireStanding 1 = .ok (.iload_n 1, 1) := by decide +kernel
theorem dX7_requireStanding_2 : decode cX7_requireStanding 2 = .ok (.invokevirtual 165, 3) := by decide +kernel
theorem dX7_requireStanding_5 : decode cX7_requireStanding 5 = .ok (.aload_n 0, 1) := by decide +kernel
theorem dX7_requireStanding_6 : decode cX7_requireStanding 6 = .ok (.getfield 45, 3) := by decide +kernel
theorem dX7_requireStanding_9 : decode cX7_requireStanding 9 = .ok (.iload_n 1, 1) := by decide +kernel
theorem dX7_requireStanding_10 : decode cX7_requireStanding 10 = .ok (.invokevirtual 183, 3) := by decide +kernel
theorem dX7_requireStanding_13 : decode cX7_requireStanding 13 = .ok (.iconst 1, 1) := by decide +kernel
theorem dX7_requireStanding_14 : decode cX7_requireStanding 14 = .ok (.if_icmp .eq 14, 3) := by decide +kernel
theorem dX7_requireStanding_17 : decode cX7_requireStanding 17 = .ok (.new 140, 3) := by decide +kernel
theorem dX7_requireStanding_20 : decode cX7_requireStanding 20 = .ok (.dup, 1) := by decide +kernel
theorem dX7_requireStanding_21 : decode cX7_requireStanding 21 = .ok (.ldc_w 273, 3) := by decide +kernel
theorem dX7_requireStanding_24 : decode cX7_requireStanding 24 = .ok (.invokespecial 144, 3) := by decide +kernel
theorem dX7_requireStanding_27 : decode cX7_requireStanding 27 = .ok (.athrow, 1) := by decide +kernel
theorem dX7_requireStanding_28 : decode cX7_requireStanding 28 = .ok (.return_, 1) := by decide +kernel
theorem dX7_requireTale_0 : decode cX7_requireTale 0 = .ok (.aload_n 0, 1) := by decide +kernel
theorem dX7_requireTale_1 : decode cX7_requireTale 1 = .ok (.iload_n 1, 1) := by decide +kernel
theorem dX7_requireTale_2 : decode cX7_requireTale 2 = .ok (.invokevirtual 145, 3) := by decide +kernel
theorem dX7_requireTale_5 : decode cX7_requireTale 5 = .ok (.aload_n 0, 1) := by decide +kernel
theorem dX7_requireTale_6 : decode cX7_requireTale 6 = .ok (.iload_n 2, 1) := by decide +kernel
theorem dX7_requireTale_7 : decode cX7_requireTale 7 = .ok (.invokevirtual 165, 3) := by decide +kernel
theorem dX7_requireTale_10 : decode cX7_requireTale 10 = .ok (.iload_n 3, 1) := by decide +kernel
theorem dX7_requireTale_11 : decode cX7_requireTale 11 = .ok (.ifCond .lt 9, 3) := by decide +kernel
theorem dX7_requireTale_14 : decode cX7_requireTale 14 = .ok (.iload_n 3, 1) := by decide +kernel
theorem dX7_requireTale_15 : decode cX7_requireTale 15 = .ok (.bipush 100, 2) := by decide +kernel
theorem dX7_requireTale_17 : decode cX7_requireTale 17 = .ok (.if_icmp .lt 14, 3) := by decide +kernel
theorem dX7_requireTale_20 : decode cX7_requireTale 20 = .ok (.new 140, 3) := by decide +kernel
theorem dX7_requireTale_23 : decode cX7_requireTale 23 = .ok (.dup, 1) := by decide +kernel
theorem dX7_requireTale_24 : decode cX7_requireTale 24 = .ok (.ldc_w 275, 3) := by decide +kernel
theorem dX7_requireTale_27 : decode cX7_requireTale 27 = .ok (.invokespecial 144, 3) := by decide +kernel
theorem dX7_requireTale_30 : decode cX7_requireTale 30 = .ok (.athrow, 1) := by decide +kernel
theorem dX7_requireTale_31 : decode cX7_requireTale 31 = .ok (.iload 4, 2) := by decide +kernel
theorem dX7_requireTale_33 : decode cX7_requireTale 33 = .ok (.ifCond .lt 10, 3) := by decide +kernel
theorem dX7_requireTale_36 : decode cX7_requireTale 36 = .ok (.iload 4, 2) := by decide +kernel
theorem dX7_requireTale_38 : decode cX7_requireTale 38 = .ok (.bipush 12, 2) := by decide +kernel
theorem dX7_requireTale_40 : decode cX7_requireTale 40 = .ok (.if_icmp .lt 14, 3) := by decide +kernel
theorem dX7_requireTale_43 : decode cX7_requireTale 43 = .ok (.new 140, 3) := by decide +kernel
theorem dX7_requireTale_46 : decode cX7_requireTale 46 = .ok (.dup, 1) := by decide +kernel
theorem dX7_requireTale_47 : decode cX7_requireTale 47 = .ok (.ldc_w 277, 3) := by decide +kernel
theorem dX7_requireTale_50 : decode cX7_requireTale 50 = .ok (.invokespecial 144, 3) := by decide +kernel
theorem dX7_requireTale_53 : decode cX7_requireTale 53 = .ok (.athrow, 1) := by decide +kernel
theorem dX7_requireTale_54 : decode cX7_requireTale 54 = .ok (.return_, 1) := by decide +kernel
theorem dX7_requireDays_0 : decode cX7_requireDays 0 = .ok (.iload_n 1, 1) := by decide +kernel
theorem dX7_requireDays_1 : decode cX7_requireDays 1 = .ok (.iconst 1, 1) := by decide +kernel
theorem dX7_requireDays_2 : decode cX7_requireDays 2 = .ok (.if_icmp .lt 8, 3) := by decide +kernel
theorem dX7_requireDays_5 : decode cX7_requireDays 5 = .ok (.iload_n 1, 1) := by decide +kernel
theorem dX7_requireDays_6 : decode cX7_requireDays 6 = .ok (.iload_n 2, 1) := by decide +kernel
theorem dX7_requireDays_7 : decode cX7_requireDays 7 = .ok (.if_icmp .le 14, 3) := by decide +kernel
theorem dX7_requireDays_10 : decode cX7_requireDays 10 = .ok (.new 81, 3) := by decide +kernel
theorem dX7_requireDays_13 : decode cX7_requireDays 13 = .ok (.dup, 1) := by decide +kernel
theorem dX7_requireDays_14 : decode cX7_requireDays 14 = .ok (.ldc_w 279, 3) := by decide +kernel
theorem dX7_requireDays_17 : decode cX7_requireDays 17 = .ok (.invokespecial 85, 3) := by decide +kernel
theorem dX7_requireDays_20 : decode cX7_requireDays 20 = .ok (.athrow, 1) := by decide +kernel
theorem dX7_requireDays_21 : decode cX7_requireDays 21 = .ok (.return_, 1) := by decide +kernel
theorem dX7_requireSilent_0 : decode cX7_requireSilent 0 = .ok (.iload_n 1, 1) := by decide +kernel
theorem dX7_requireSilent_1 : decode cX7_requireSilent 1 = .ok (.aload_n 0, 1) := by decide +kernel
theorem dX7_requireSilent_2 : decode cX7_requireSilent 2 = .ok (.getfield 29, 3) := by decide +kernel
theorem dX7_requireSilent_5 : decode cX7_requireSilent 5 = .ok (.invokevirtual 281, 3) := by decide +kernel
theorem dX7_requireSilent_8 : decode cX7_requireSilent 8 = .ok (.iconst (-1), 1) := by decide +kernel
theorem dX7_requireSilent_9 : decode cX7_requireSilent 9 = .ok (.ixor, 1) := by decide +kernel
theorem dX7_requireSilent_10 : decode cX7_requireSilent 10 = .ok (.iand, 1) := by decide +kernel
theorem dX7_requireSilent_11 : decode cX7_requireSilent 11 = .ok (.ifCond .eq 14, 3) := by decide +kernel
theorem dX7_requireSilent_14 : decode cX7_requireSilent 14 = .ok (.new 81, 3) := by decide +kernel
theorem dX7_requireSilent_17 : decode cX7_requireSilent 17 = .ok (.dup, 1) := by decide +kernel
theorem dX7_requireSilent_18 : decode cX7_requireSilent 18 = .ok (.ldc_w 285, 3) := by decide +kernel
theorem dX7_requireSilent_21 : decode cX7_requireSilent 21 = .ok (.invokespecial 85, 3) := by decide +kernel
theorem dX7_requireSilent_24 : decode cX7_requireSilent 24 = .ok (.athrow, 1) := by decide +kernel
theorem dX7_requireSilent_25 : decode cX7_requireSilent 25 = .ok (.return_, 1) := by decide +kernel
theorem dX8_init_0 : decode cX8_init 0 = .ok (.aload_n 0, 1) := by decide +kernel
theorem dX8_init_1 : decode cX8_init 1 = .ok (.invokespecial 1, 3) := by decide +kernel
theorem dX8_init_4 : decode cX8_init 4 = .ok (.aload_n 0, 1) := by decide +kernel
theorem dX8_init_5 : decode cX8_init 5 = .ok (.bipush 6, 2) := by decide +kernel
theorem dX8_init_7 : decode cX8_init 7 = .ok (.newarray .int, 2) := by decide +kernel
theorem dX8_init_9 : decode cX8_init 9 = .ok (.dup, 1) := by decide +kernel
theorem dX8_init_10 : decode cX8_init 10 = .ok (.iconst 0, 1) := by decide +kernel
theorem dX8_init_11 : decode cX8_init 11 = .ok (.iconst 2, 1) := by decide +kernel
theorem dX8_init_12 : decode cX8_init 12 = .ok (.iastore, 1) := by decide +kernel
theorem dX8_init_13 : decode cX8_init 13 = .ok (.dup, 1) := by decide +kernel
theorem dX8_init_14 : decode cX8_init 14 = .ok (.iconst 1, 1) := by decide +kernel
theorem dX8_init_15 : decode cX8_init 15 = .ok (.iconst 0, 1) := by decide +kernel
theorem dX8_init_16 : decode cX8_init 16 = .ok (.iastore, 1) := by decide +kernel
theorem dX8_init_17 : decode cX8_init 17 = .ok (.dup, 1) := by decide +kernel
theorem dX8_init_18 : decode cX8_init 18 = .ok (.iconst 2, 1) := by decide +kernel
theorem dX8_init_19 : decode cX8_init 19 = .ok (.iconst 0, 1) := by decide +kernel
theorem dX8_init_20 : decode cX8_init 20 = .ok (.iastore, 1) := by decide +kernel
theorem dX8_init_21 : decode cX8_init 21 = .ok (.dup, 1) := by decide +kernel
theorem dX8_init_22 : decode cX8_init 22 = .ok (.iconst 3, 1) := by decide +kernel
theorem dX8_init_23 : decode cX8_init 23 = .ok (.iconst 2, 1) := by decide +kernel
theorem dX8_init_24 : decode cX8_init 24 = .ok (.iastore, 1) := by decide +kernel
theorem dX8_init_25 : decode cX8_init 25 = .ok (.dup, 1) := by decide +kernel
theorem dX8_init_26 : decode cX8_init 26 = .ok (.iconst 4, 1) := by decide +kernel
theorem dX8_init_27 : decode cX8_init 27 = .ok (.iconst 0, 1) := by decide +kernel
theorem dX8_init_28 : decode cX8_init 28 = .ok (.iastore, 1) := by decide +kernel
theorem dX8_init_29 : decode cX8_init 29 = .ok (.dup, 1) := by decide +kernel
theorem dX8_init_30 : decode cX8_init 30 = .ok (.iconst 5, 1) := by decide +kernel
theorem dX8_init_31 : decode cX8_init 31 = .ok (.iconst 0, 1) := by decide +kernel
theorem dX8_init_32 : decode cX8_init 32 = .ok (.iastore, 1) := by decide +kernel
theorem dX8_init_33 : decode cX8_init 33 = .ok (.putfield 7, 3) := by decide +kernel
theorem dX8_init_36 : decode cX8_init 36 = .ok (.aload_n 0, 1) := by decide +kernel
theorem dX8_init_37 : decode cX8_init 37 = .ok (.bipush 12, 2) := by decide +kernel
theorem dX8_init_39 : decode cX8_init 39 = .ok (.newarray .int, 2) := by decide +kernel
theorem dX8_init_41 : decode cX8_init 41 = .ok (.putfield 13, 3) := by decide +kernel
theorem dX8_init_44 : decode cX8_init 44 = .ok (.aload_n 0, 1) := by decide +kernel
theorem dX8_init_45 : decode cX8_init 45 = .ok (.bipush 24, 2) := by decide +kernel
theorem dX8_init_47 : decode cX8_init 47 = .ok (.newarray .int, 2) := by decide +kernel
theorem dX8_init_49 : decode cX8_init 49 = .ok (.putfield 16, 3) := by decide +kernel
theorem dX8_init_52 : decode cX8_init 52 = .ok (.aload_n 0, 1) := by decide +kernel
theorem dX8_init_53 : decode cX8_init 53 = .ok (.bipush 24, 2) := by decide +kernel
theorem dX8_init_55 : decode cX8_init 55 = .ok (.newarray .int, 2) := by decide +kernel
theorem dX8_init_57 : decode cX8_init 57 = .ok (.putfield 19, 3) := by decide +kernel
theorem dX8_init_60 : decode cX8_init 60 = .ok (.aload_n 0, 1) := by decide +kernel
theorem dX8_init_61 : decode cX8_init 61 = .ok (.bipush 24, 2) := by decide +kernel
theorem dX8_init_63 : decode cX8_init 63 = .ok (.newarray .int, 2) := by decide +kernel
theorem dX8_init_65 : decode cX8_init 65 = .ok (.putfield 22, 3) := by decide +kernel
theorem dX8_init_68 : decode cX8_init 68 = .ok (.aload_n 0, 1) := by decide +kernel
theorem dX8_init_69 : decode cX8_init 69 = .ok (.bipush 24, 2) := by decide +kernel
theorem dX8_init_71 : decode cX8_init 71 = .ok (.newarray .int, 2) := by decide +kernel
theorem dX8_init_73 : decode cX8_init 73 = .ok (.putfield 25, 3) := by decide +kernel
theorem dX8_init_76 : decode cX8_init 76 = .ok (.aload_n 0, 1) := by decide +kernel
theorem dX8_init_77 : decode cX8_init 77 = .ok (.bipush 24, 2) := by decide +kernel
theorem dX8_init_79 : decode cX8_init 79 = .ok (.newarray .int, 2) := by decide +kernel
theorem dX8_init_81 : decode cX8_init 81 = .ok (.putfield 28, 3) := by decide +kernel
theorem dX8_init_84 : decode cX8_init 84 = .ok (.aload_n 0, 1) := by decide +kernel
theorem dX8_init_85 : decode cX8_init 85 = .ok (.bipush 24, 2) := by decide +kernel
theorem dX8_init_87 : decode cX8_init 87 = .ok (.newarray .int, 2) := by decide +kernel
theorem dX8_init_89 : decode cX8_init 89 = .ok (.putfield 31, 3) := by decide +kernel
theorem dX8_init_92 : decode cX8_init 92 = .ok (.aload_n 0, 1) := by decide +kernel
theorem dX8_init_93 : decode cX8_init 93 = .ok (.bipush 24, 2) := by decide +kernel
theorem dX8_init_95 : decode cX8_init 95 = .ok (.newarray .int, 2) := by decide +kernel
theorem dX8_init_97 : decode cX8_init 97 = .ok (.putfield 34, 3) := by decide +kernel
theorem dX8_init_100 : decode cX8_init 100 = .ok (.aload_n 0, 1) := by decide +kernel
theorem dX8_init_101 : decode cX8_init 101 = .ok (.bipush 24, 2) := by decide +kernel
theorem dX8_init_103 : decode cX8_init 103 = .ok (.newarray .int, 2) := by decide +kernel
theorem dX8_init_105 : decode cX8_init 105 = .ok (.putfield 37, 3) := by decide +kernel
theorem dX8_init_108 : decode cX8_init 108 = .ok (.aload_n 0, 1) := by decide +kernel
theorem dX8_init_109 : decode cX8_init 109 = .ok (.bipush 60, 2) := by decide +kernel
theorem dX8_init_111 : decode cX8_init 111 = .ok (.newarray .int, 2) := by decide +kernel
theorem dX8_init_113 : decode cX8_init 113 = .ok (.putfield 40, 3) := by decide +kernel
theorem dX8_init_116 : decode cX8_init 116 = .ok (.aload_n 0, 1) := by decide +kernel
theorem dX8_init_117 : decode cX8_init 117 = .ok (.bipush 60, 2) := by decide +kernel
theorem dX8_init_119 : decode cX8_init 119 = .ok (.newarray .int, 2) := by decide +kernel
theorem dX8_init_121 : decode cX8_init 121 = .ok (.putfield 43, 3) := by decide +kernel
theorem dX8_init_124 : decode cX8_init 124 = .ok (.aload_n 0, 1) := by decide +kernel
theorem dX8_init_125 : decode cX8_init 125 = .ok (.bipush 60, 2) := by decide +kernel
theorem dX8_init_127 : decode cX8_init 127 = .ok (.newarray .int, 2) := by decide +kernel
theorem dX8_init_129 : decode cX8_init 129 = .ok (.putfield 46, 3) := by decide +kernel
theorem dX8_init_132 : decode cX8_init 132 = .ok (.aload_n 0, 1) := by decide +kernel
theorem dX8_init_133 : decode cX8_init 133 = .ok (.bipush 60, 2) := by decide +kernel
theorem dX8_init_135 : decode cX8_init 135 = .ok (.newarray .int, 2) := by decide +kernel
theorem dX8_init_137 : decode cX8_init 137 = .ok (.putfield 49, 3) := by decide +kernel
theorem dX8_init_140 : decode cX8_init 140 = .ok (.aload_n 0, 1) := by decide +kernel
theorem dX8_init_141 : decode cX8_init 141 = .ok (.iconst 2, 1) := by decide +kernel
theorem dX8_init_142 : decode cX8_init 142 = .ok (.newarray .int, 2) := by decide +kernel
theorem dX8_init_144 : decode cX8_init 144 = .ok (.putfield 52, 3) := by decide +kernel
theorem dX8_init_147 : decode cX8_init 147 = .ok (.aload_n 0, 1) := by decide +kernel
theorem dX8_init_148 : decode cX8_init 148 = .ok (.sipush 700, 3) := by decide +kernel
theorem dX8_init_151 : decode cX8_init 151 = .ok (.newarray .int, 2) := by decide +kernel
theorem dX8_init_153 : decode cX8_init 153 = .ok (.putfield 55, 3) := by decide +kernel
theorem dX8_init_156 : decode cX8_init 156 = .ok (.aload_n 0, 1) := by decide +kernel
theorem dX8_init_157 : decode cX8_init 157 = .ok (.iconst (-1), 1) := by decide +kernel
theorem dX8_init_158 : decode cX8_init 158 = .ok (.putfield 58, 3) := by decide +kernel
theorem dX8_init_161 : decode cX8_init 161 = .ok (.aload_n 0, 1) := by decide +kernel
theorem dX8_init_162 : decode cX8_init 162 = .ok (.iconst 3, 1) := by decide +kernel
theorem dX8_init_163 : decode cX8_init 163 = .ok (.newarray .int, 2) := by decide +kernel
theorem dX8_init_165 : decode cX8_init 165 = .ok (.putfield 62, 3) := by decide +kernel
theorem dX8_init_168 : decode cX8_init 168 = .ok (.aload_n 0, 1) := by decide +kernel
theorem dX8_init_169 : decode cX8_init 169 = .ok (.iconst 3, 1) := by decide +kernel
theorem dX8_init_170 : decode cX8_init 170 = .ok (.newarray .int, 2) := by decide +kernel
theorem dX8_init_172 : decode cX8_init 172 = .ok (.putfield 65, 3) := by decide +kernel
theorem dX8_init_175 : decode cX8_init 175 = .ok (.aload_n 0, 1) := by decide +kernel
theorem dX8_init_176 : decode cX8_init 176 = .ok (.bipush 36, 2) := by decide +kernel
theorem dX8_init_178 : decode cX8_init 178 = .ok (.newarray .int, 2) := by decide +kernel
theorem dX8_init_180 : decode cX8_init 180 = .ok (.putfield 68, 3) := by decide +kernel
theorem dX8_init_183 : decode cX8_init 183 = .ok (.aload_n 0, 1) := by decide +kernel
theorem dX8_init_184 : decode cX8_init 184 = .ok (.bipush 36, 2) := by decide +kernel
theorem dX8_init_186 : decode cX8_init 186 = .ok (.newarray .int, 2) := by decide +kernel
theorem dX8_init_188 : decode cX8_init 188 = .ok (.putfield 71, 3) := by decide +kernel
theorem dX8_init_191 : decode cX8_init 191 = .ok (.aload_n 0, 1) := by decide +kernel
theorem dX8_init_192 : decode cX8_init 192 = .ok (.bipush 36, 2) := by decide +kernel
theorem dX8_init_194 : decode cX8_init 194 = .ok (.newarray .int, 2) := by decide +kernel
theorem dX8_init_196 : decode cX8_init 196 = .ok (.putfield 74, 3) := by decide +kernel
theorem dX8_init_199 : decode cX8_init 199 = .ok (.aload_n 0, 1) := by decide +kernel
theorem dX8_init_200 : decode cX8_init 200 = .ok (.bipush 36, 2) := by decide +kernel
theorem dX8_init_202 : decode cX8_init 202 = .ok (.newarray .int, 2) := by decide +kernel
theorem dX8_init_204 : decode cX8_init 204 = .ok (.putfield 77, 3) := by decide +kernel
theorem dX8_init_207 : decode cX8_init 207 = .ok (.aload_n 0, 1) := by decide +kernel
theorem dX8_init_208 : decode cX8_init 208 = .ok (.bipush 12, 2) := by decide +kernel
theorem dX8_init_210 : decode cX8_init 210 = .ok (.newarray .boolean, 2) := by decide +kernel
theorem dX8_init_212 : decode cX8_init 212 = .ok (.putfield 80, 3) := by decide +kernel
theorem dX8_init_215 : decode cX8_init 215 = .ok (.aload_n 0, 1) := by decide +kernel
theorem dX8_init_216 : decode cX8_init 216 = .ok (.bipush 12, 2) := by decide +kernel
theorem dX8_init_218 : decode cX8_init 218 = .ok (.newarray .int, 2) := by decide +kernel
theorem dX8_init_220 : decode cX8_init 220 = .ok (.putfield 84, 3) := by decide +kernel
theorem dX8_init_223 : decode cX8_init 223 = .ok (.aload_n 0, 1) := by decide +kernel
theorem dX8_init_224 : decode cX8_init 224 = .ok (.bipush 64, 2) := by decide +kernel
theorem dX8_init_226 : decode cX8_init 226 = .ok (.newarray .int, 2) := by decide +kernel
theorem dX8_init_228 : decode cX8_init 228 = .ok (.putfield 87, 3) := by decide +kernel
theorem dX8_init_231 : decode cX8_init 231 = .ok (.aload_n 0, 1) := by decide +kernel
theorem dX8_init_232 : decode cX8_init 232 = .ok (.bipush 64, 2) := by decide +kernel
theorem dX8_init_234 : decode cX8_init 234 = .ok (.newarray .int, 2) := by decide +kernel
theorem dX8_init_236 : decode cX8_init 236 = .ok (.putfield 90, 3) := by decide +kernel
theorem dX8_init_239 : decode cX8_init 239 = .ok (.aload_n 0, 1) := by decide +kernel
theorem dX8_init_240 : decode cX8_init 240 = .ok (.bipush 12, 2) := by decide +kernel
theorem dX8_init_242 : decode cX8_init 242 = .ok (.newarray .int, 2) := by decide +kernel
theorem dX8_init_244 : decode cX8_init 244 = .ok (.putfield 93, 3) := by decide +kernel
theorem dX8_init_247 : decode cX8_init 247 = .ok (.aload_n 0, 1) := by decide +kernel
theorem dX8_init_248 : decode cX8_init 248 = .ok (.bipush 12, 2) := by decide +kernel
theorem dX8_init_250 : decode cX8_init 250 = .ok (.newarray .int, 2) := by decide +kernel
theorem dX8_init_252 : decode cX8_init 252 = .ok (.putfield 96, 3) := by decide +kernel
theorem dX8_init_255 : decode cX8_init 255 = .ok (.aload_n 0, 1) := by decide +kernel
theorem dX8_init_256 : decode cX8_init 256 = .ok (.ldc 99, 2) := by decide +kernel
theorem dX8_init_258 : decode cX8_init 258 = .ok (.newarray .int, 2) := by decide +kernel
theorem dX8_init_260 : decode cX8_init 260 = .ok (.putfield 100, 3) := by decide +kernel
theorem dX8_init_263 : decode cX8_init 263 = .ok (.aload_n 0, 1) := by decide +kernel
theorem dX8_init_264 : decode cX8_init 264 = .ok (.sipush 4096, 3) := by decide +kernel
theorem dX8_init_267 : decode cX8_init 267 = .ok (.newarray .int, 2) := by decide +kernel
theorem dX8_init_269 : decode cX8_init 269 = .ok (.putfield 103, 3) := by decide +kernel
theorem dX8_init_272 : decode cX8_init 272 = .ok (.aload_n 0, 1) := by decide +kernel
theorem dX8_init_273 : decode cX8_init 273 = .ok (.bipush 64, 2) := by decide +kernel
theorem dX8_init_275 : decode cX8_init 275 = .ok (.newarray .boolean, 2) := by decide +kernel
theorem dX8_init_277 : decode cX8_init 277 = .ok (.putfield 106, 3) := by decide +kernel
theorem dX8_init_280 : decode cX8_init 280 = .ok (.aload_n 0, 1) := by decide +kernel
theorem dX8_init_281 : decode cX8_init 281 = .ok (.sipush 16384, 3) := by decide +kernel
theorem dX8_init_284 : decode cX8_init 284 = .ok (.newarray .int, 2) := by decide +kernel
theorem dX8_init_286 : decode cX8_init 286 = .ok (.putfield 109, 3) := by decide +kernel
theorem dX8_init_289 : decode cX8_init 289 = .ok (.aload_n 0, 1) := by decide +kernel
theorem dX8_init_290 : decode cX8_init 290 = .ok (.sipush 16384, 3) := by decide +kernel
theorem dX8_init_293 : decode cX8_init 293 = .ok (.newarray .int, 2) := by decide +kernel
theorem dX8_init_295 : decode cX8_init 295 = .ok (.putfield 112, 3) := by decide +kernel
theorem dX8_init_298 : decode cX8_init 298 = .ok (.aload_n 0, 1) := by decide +kernel
theorem dX8_init_299 : decode cX8_init 299 = .ok (.sipush 16384, 3) := by decide +kernel
theorem dX8_init_302 : decode cX8_init 302 = .ok (.newarray .int, 2) := by decide +kernel
theorem dX8_init_304 : decode cX8_init 304 = .ok (.putfield 115, 3) := by decide +kernel
theorem dX8_init_307 : decode cX8_init 307 = .ok (.aload_n 0, 1) := by decide +kernel
theorem dX8_init_308 : decode cX8_init 308 = .ok (.sipush 240, 3) := by decide +kernel
theorem dX8_init_311 : decode cX8_init 311 = .ok (.newarray .int, 2) := by decide +kernel
theorem dX8_init_313 : decode cX8_init 313 = .ok (.putfield 118, 3) := by decide +kernel
theorem dX8_init_316 : decode cX8_init 316 = .ok (.aload_n 0, 1) := by decide +kernel
theorem dX8_init_317 : decode cX8_init 317 = .ok (.iconst 2, 1) := by decide +kernel
theorem dX8_init_318 : decode cX8_init 318 = .ok (.newarray .int, 2) := by decide +kernel
theorem dX8_init_320 : decode cX8_init 320 = .ok (.putfield 121, 3) := by decide +kernel
theorem dX8_init_323 : decode cX8_init 323 = .ok (.iconst 0, 1) := by decide +kernel
theorem dX8_init_324 : decode cX8_init 324 = .ok (.istore_n 1, 1) := by decide +kernel
theorem dX8_init_325 : decode cX8_init 325 = .ok (.iload_n 1, 1) := by decide +kernel
theorem dX8_init_326 : decode cX8_init 326 = .ok (.bipush 6, 2) := by decide +kernel
theorem dX8_init_328 : decode cX8_init 328 = .ok (.if_icmp .ge 16, 3) := by decide +kernel
theorem dX8_init_331 : decode cX8_init 331 = .ok (.aload_n 0, 1) := by decide +kernel
theorem dX8_init_332 : decode cX8_init 332 = .ok (.getfield 13, 3) := by decide +kernel
theorem dX8_init_335 : decode cX8_init 335 = .ok (.iload_n 1, 1) := by decide +kernel
theorem dX8_init_336 : decode cX8_init 336 = .ok (.iconst 1, 1) := by decide +kernel
theorem dX8_init_337 : decode cX8_init 337 = .ok (.iastore, 1) := by decide +kernel
theorem dX8_init_338 : decode cX8_init 338 = .ok (.iinc 1 1, 3) := by decide +kernel
theorem dX8_init_341 : decode cX8_init 341 = .ok (.goto (-16), 3) := by decide +kernel
theorem dX8_init_344 : decode cX8_init 344 = .ok (.aload_n 0, 1) := by decide +kernel
theorem dX8_init_345 : decode cX8_init 345 = .ok (.iconst 0, 1) := by decide +kernel
theorem dX8_init_346 : decode cX8_init 346 = .ok (.invokevirtual 124, 3) := by decide +kernel
theorem dX8_init_349 : decode cX8_init 349 = .ok (.return_, 1) := by decide +kernel
theorem dX8_thrown_0 : decode cX8_thrown 0 = .ok (.aload_n 0, 1) := by decide +kernel
theorem dX8_thrown_1 : decode cX8_thrown 1 = .ok (.getfield 128, 3) := by decide +kernel
theorem dX8_thrown_4 : decode cX8_thrown 4 = .ok (.ireturn, 1) := by decide +kernel
theorem dX8_fail_0 : decode cX8_fail 0 = .ok (.aload_n 0, 1) := by decide +kernel
theorem dX8_fail_1 : decode cX8_fail 1 = .ok (.iload_n 1, 1) := by decide +kernel
theorem dX8_fail_2 : decode cX8_fail 2 = .ok (.putfield 128, 3) := by decide +kernel
theorem dX8_fail_5 : decode cX8_fail 5 = .ok (.iconst 0, 1) := by decide +kernel
theorem dX8_fail_6 : decode cX8_fail 6 = .ok (.ireturn, 1) := by decide +kernel
theorem dX8_isIn_0 : decode cX8_isIn 0 = .ok (.iload_n 0, 1) := by decide +kernel
theorem dX8_isIn_1 : decode cX8_isIn 1 = .ok (.iload_n 1, 1) := by decide +kernel
theorem dX8_isIn_2 : decode cX8_isIn 2 = .ok (.if_icmp .lt 12, 3) := by decide +kernel
theorem dX8_isIn_5 : decode cX8_isIn 5 = .ok (.iload_n 0, 1) := by decide +kernel
theorem dX8_isIn_6 : decode cX8_isIn 6 = .ok (.iload_n 2, 1) := by decide +kernel
theorem dX8_isIn_7 : decode cX8_isIn 7 = .ok (.if_icmp .gt 7, 3) := by decide +kernel
theorem dX8_isIn_10 : decode cX8_isIn 10 = .ok (.iconst 1, 1) := by decide +kernel
theorem dX8_isIn_11 : decode cX8_isIn 11 = .ok (.goto 4, 3) := by decide +kernel
theorem dX8_isIn_14 : decode cX8_isIn 14 = .ok (.iconst 0, 1) := by decide +kernel
theorem dX8_isIn_15 : decode cX8_isIn 15 = .ok (.ireturn, 1) := by decide +kernel
theorem dX8_isPerson_0 : decode cX8_isPerson 0 = .ok (.iload_n 1, 1) := by decide +kernel
theorem dX8_isPerson_1 : decode cX8_isPerson 1 = .ok (.iconst 0, 1) := by decide +kernel
theorem dX8_isPerson_2 : decode cX8_isPerson 2 = .ok (.aload_n 0, 1) := by decide +kernel
theorem dX8_isPerson_3 : decode cX8_isPerson 3 = .ok (.getfield 7, 3) := by decide +kernel
theorem dX8_isPerson_6 : decode cX8_isPerson 6 = .ok (.iconst 0, 1) := by decide +kernel
theorem dX8_isPerson_7 : decode cX8_isPerson 7 = .ok (.iaload, 1) := by decide +kernel
theorem dX8_isPerson_8 : decode cX8_isPerson 8 = .ok (.iconst 1, 1) := by decide +kernel
theorem dX8_isPerson_9 : decode cX8_isPerson 9 = .ok (.isub, 1) := by decide +kernel
theorem dX8_isPerson_10 : decode cX8_isPerson 10 = .ok (.invokestatic 131, 3) := by decide +kernel
theorem dX8_isPerson_13 : decode cX8_isPerson 13 = .ok (.ireturn, 1) := by decide +kernel
theorem dX8_isMeeting_0 : decode cX8_isMeeting 0 = .ok (.iload_n 1, 1) := by decide +kernel
theorem dX8_isMeeting_1 : decode cX8_isMeeting 1 = .ok (.iconst 0, 1) := by decide +kernel
theorem dX8_isMeeting_2 : decode cX8_isMeeting 2 = .ok (.aload_n 0, 1) := by decide +kernel
theorem dX8_isMeeting_3 : decode cX8_isMeeting 3 = .ok (.getfield 7, 3) := by decide +kernel
theorem dX8_isMeeting_6 : decode cX8_isMeeting 6 = .ok (.iconst 1, 1) := by decide +kernel
theorem dX8_isMeeting_7 : decode cX8_isMeeting 7 = .ok (.iaload, 1) := by decide +kernel
theorem dX8_isMeeting_8 : decode cX8_isMeeting 8 = .ok (.iconst 1, 1) := by decide +kernel
theorem dX8_isMeeting_9 : decode cX8_isMeeting 9 = .ok (.isub, 1) := by decide +kernel
theorem dX8_isMeeting_10 : decode cX8_isMeeting 10 = .ok (.invokestatic 131, 3) := by decide +kernel
theorem dX8_isMeeting_13 : decode cX8_isMeeting 13 = .ok (.ireturn, 1) := by decide +kernel
theorem dX8_isPromise_0 : decode cX8_isPromise 0 = .ok (.iload_n 1, 1) := by decide +kernel
theorem dX8_isPromise_1 : decode cX8_isPromise 1 = .ok (.iconst 0, 1) := by decide +kernel
theorem dX8_isPromise_2 : decode cX8_isPromise 2 = .ok (.aload_n 0, 1) := by decide +kernel
theorem dX8_isPromise_3 : decode cX8_isPromise 3 = .ok (.getfield 7, 3) := by decide +kernel
theorem dX8_isPromise_6 : decode cX8_isPromise 6 = .ok (.iconst 2, 1) := by decide +kernel
theorem dX8_isPromise_7 : decode cX8_isPromise 7 = .ok (.iaload, 1) := by decide +kernel
theorem dX8_isPromise_8 : decode cX8_isPromise 8 = .ok (.iconst 1, 1) := by decide +kernel
theorem dX8_isPromise_9 : decode cX8_isPromise 9 = .ok (.isub, 1) := by decide +kernel
theorem dX8_isPromise_10 : decode cX8_isPromise 10 = .ok (.invokestatic 131, 3) := by decide +kernel
theorem dX8_isPromise_13 : decode cX8_isPromise 13 = .ok (.ireturn, 1) := by decide +kernel
theorem dX8_feed_0 : decode cX8_feed 0 = .ok (.aload_n 0, 1) := by decide +kernel
theorem dX8_feed_1 : decode cX8_feed 1 = .ok (.iconst 0, 1) := by decide +kernel
theorem dX8_feed_2 : decode cX8_feed 2 = .ok (.putfield 128, 3) := by decide +kernel
theorem dX8_feed_5 : decode cX8_feed 5 = .ok (.aload_n 0, 1) := by decide +kernel
theorem dX8_feed_6 : decode cX8_feed 6 = .ok (.getfield 135, 3) := by decide +kernel
theorem dX8_feed_9 : decode cX8_feed 9 = .ok (.bipush 20, 2) := by decide +kernel
theorem dX8_feed_11 : decode cX8_feed 11 = .ok (.iadd, 1) := by decide +kernel
theorem dX8_feed_12 : decode cX8_feed 12 = .ok (.sipush 700, 3) := by decide +kernel
theorem dX8_feed_15 : decode cX8_feed 15 = .ok (.if_icmp .le 5, 3) := by decide +kernel
theorem dX8_feed_18 : decode cX8_feed 18 = .ok (.iconst (-1), 1) := by decide +kernel
theorem dX8_feed_19 : decode cX8_feed 19 = .ok (.ireturn, 1) := by decide +kernel
theorem dX8_feed_20 : decode cX8_feed 20 = .ok (.iconst 0, 1) := by decide +kernel
theorem dX8_feed_21 : decode cX8_feed 21 = .ok (.istore 6, 2) := by decide +kernel
theorem dX8_feed_23 : decode cX8_feed 23 = .ok (.iload 6, 2) := by decide +kernel
theorem dX8_feed_25 : decode cX8_feed 25 = .ok (.bipush 20, 2) := by decide +kernel
theorem dX8_feed_27 : decode cX8_feed 27 = .ok (.if_icmp .ge 93, 3) := by decide +kernel
theorem dX8_feed_30 : decode cX8_feed 30 = .ok (.iload 6, 2) := by decide +kernel
theorem dX8_feed_32 : decode cX8_feed 32 = .ok (.iconst 4, 1) := by decide +kernel
theorem dX8_feed_33 : decode cX8_feed 33 = .ok (.if_icmp .ge 7, 3) := by decide +kernel
theorem dX8_feed_36 : decode cX8_feed 36 = .ok (.iload_n 1, 1) := by decide +kernel
theorem dX8_feed_37 : decode cX8_feed 37 = .ok (.goto 39, 3) := by decide +kernel
theorem dX8_feed_40 : decode cX8_feed 40 = .ok (.iload 6, 2) := by decide +kernel
theorem dX8_feed_42 : decode cX8_feed 42 = .ok (.bipush 8, 2) := by decide +kernel
theorem dX8_feed_44 : decode cX8_feed 44 = .ok (.if_icmp .ge 7, 3) := by decide +kernel
theorem dX8_feed_47 : decode cX8_feed 47 = .ok (.iload_n 2, 1) := by decide +kernel
theorem dX8_feed_48 : decode cX8_feed 48 = .ok (.goto 28, 3) := by decide +kernel
theorem dX8_feed_51 : decode cX8_feed 51 = .ok (.iload 6, 2) := by decide +kernel
theorem dX8_feed_53 : decode cX8_feed 53 = .ok (.bipush 12, 2) := by decide +kernel
theorem dX8_feed_55 : decode cX8_feed 55 = .ok (.if_icmp .ge 7, 3) := by decide +kernel
theorem dX8_feed_58 : decode cX8_feed 58 = .ok (.iload_n 3, 1) := by decide +kernel
theorem dX8_feed_59 : decode cX8_feed 59 = .ok (.goto 17, 3) := by decide +kernel
theorem dX8_feed_62 : decode cX8_feed 62 = .ok (.iload 6, 2) := by decide +kernel
theorem dX8_feed_64 : decode cX8_feed 64 = .ok (.bipush 16, 2) := by decide +kernel
theorem dX8_feed_66 : decode cX8_feed 66 = .ok (.if_icmp .ge 8, 3) := by decide +kernel
theorem dX8_feed_69 : decode cX8_feed 69 = .ok (.iload 4, 2) := by decide +kernel
theorem dX8_feed_71 : decode cX8_feed 71 = .ok (.goto 5, 3) := by decide +kernel
theorem dX8_feed_74 : decode cX8_feed 74 = .ok (.iload 5, 2) := by decide +kernel
theorem dX8_feed_76 : decode cX8_feed 76 = .ok (.istore 7, 2) := by decide +kernel
theorem dX8_feed_78 : decode cX8_feed 78 = .ok (.aload_n 0, 1) := by decide +kernel
theorem dX8_feed_79 : decode cX8_feed 79 = .ok (.getfield 55, 3) := by decide +kernel
theorem dX8_feed_82 : decode cX8_feed 82 = .ok (.aload_n 0, 1) := by decide +kernel
theorem dX8_feed_83 : decode cX8_feed 83 = .ok (.getfield 135, 3) := by decide +kernel
theorem dX8_feed_86 : decode cX8_feed 86 = .ok (.iload 7, 2) := by decide +kernel
theorem dX8_feed_88 : decode cX8_feed 88 = .ok (.bipush 24, 2) := by decide +kernel
theorem dX8_feed_90 : decode cX8_feed 90 = .ok (.bipush 8, 2) := by decide +kernel
theorem dX8_feed_92 : decode cX8_feed 92 = .ok (.iload 6, 2) := by decide +kernel
theorem dX8_feed_94 : decode cX8_feed 94 = .ok (.iconst 4, 1) := by decide +kernel
theorem dX8_feed_95 : decode cX8_feed 95 = .ok (.irem, 1) := by decide +kernel
theorem dX8_feed_96 : decode cX8_feed 96 = .ok (.imul, 1) := by decide +kernel
theorem dX8_feed_97 : decode cX8_feed 97 = .ok (.isub, 1) := by decide +kernel
theorem dX8_feed_98 : decode cX8_feed 98 = .ok (.ishr, 1) := by decide +kernel
theorem dX8_feed_99 : decode cX8_feed 99 = .ok (.sipush 255, 3) := by decide +kernel
theorem dX8_feed_102 : decode cX8_feed 102 = .ok (.iand, 1) := by decide +kernel
theorem dX8_feed_103 : decode cX8_feed 103 = .ok (.iastore, 1) := by decide +kernel
theorem dX8_feed_104 : decode cX8_feed 104 = .ok (.aload_n 0, 1) := by decide +kernel
theorem dX8_feed_105 : decode cX8_feed 105 = .ok (.dup, 1) := by decide +kernel
theorem dX8_feed_106 : decode cX8_feed 106 = .ok (.getfield 135, 3) := by decide +kernel
theorem dX8_feed_109 : decode cX8_feed 109 = .ok (.iconst 1, 1) := by decide +kernel
theorem dX8_feed_110 : decode cX8_feed 110 = .ok (.iadd, 1) := by decide +kernel
theorem dX8_feed_111 : decode cX8_feed 111 = .ok (.putfield 135, 3) := by decide +kernel
theorem dX8_feed_114 : decode cX8_feed 114 = .ok (.iinc 6 1, 3) := by decide +kernel
theorem dX8_feed_117 : decode cX8_feed 117 = .ok (.goto (-94), 3) := by decide +kernel
theorem dX8_feed_120 : decode cX8_feed 120 = .ok (.aload_n 0, 1) := by decide +kernel
theorem dX8_feed_121 : decode cX8_feed 121 = .ok (.getfield 135, 3) := by decide +kernel
theorem dX8_feed_124 : decode cX8_feed 124 = .ok (.ireturn, 1) := by decide +kernel
theorem dX8_byteAt_0 : decode cX8_byteAt 0 = .ok (.iload_n 1, 1) := by decide +kernel
theorem dX8_byteAt_1 : decode cX8_byteAt 1 = .ok (.aload_n 0, 1) := by decide +kernel
theorem dX8_byteAt_2 : decode cX8_byteAt 2 = .ok (.getfield 138, 3) := by decide +kernel
theorem dX8_byteAt_5 : decode cX8_byteAt 5 = .ok (.if_icmp .ge 12, 3) := by decide +kernel
theorem dX8_byteAt_8 : decode cX8_byteAt 8 = .ok (.aload_n 0, 1) := by decide +kernel
theorem dX8_byteAt_9 : decode cX8_byteAt 9 = .ok (.getfield 55, 3) := by decide +kernel
theorem dX8_byteAt_12 : decode cX8_byteAt 12 = .ok (.iload_n 1, 1) := by decide +kernel
theorem dX8_byteAt_13 : decode cX8_byteAt 13 = .ok (.iaload, 1) := by decide +kernel
theorem dX8_byteAt_14 : decode cX8_byteAt 14 = .ok (.goto 4, 3) := by decide +kernel
theorem dX8_byteAt_17 : decode cX8_byteAt 17 = .ok (.iconst (-1), 1) := by decide +kernel
theorem dX8_byteAt_18 : decode cX8_byteAt 18 = .ok (.ireturn, 1) := by decide +kernel
theorem dX8_isLetter_0 : decode cX8_isLetter 0 = .ok (.iload_n 0, 1) := by decide +kernel
theorem dX8_isLetter_1 : decode cX8_isLetter 1 = .ok (.bipush 97, 2) := by decide +kernel
theorem dX8_isLetter_3 : decode cX8_isLetter 3 = .ok (.if_icmp .lt 13, 3) := by decide +kernel
theorem dX8_isLetter_6 : decode cX8_isLetter 6 = .ok (.iload_n 0, 1) := by decide +kernel
theorem dX8_isLetter_7 : decode cX8_isLetter 7 = .ok (.bipush 122, 2) := by decide +kernel
theorem dX8_isLetter_9 : decode cX8_isLetter 9 = .ok (.if_icmp .gt 7, 3) := by decide +kernel
theorem dX8_isLetter_12 : decode cX8_isLetter 12 = .ok (.iconst 1, 1) := by decide +kernel
theorem dX8_isLetter_13 : decode cX8_isLetter 13 = .ok (.goto 4, 3) := by decide +kernel
theorem dX8_isLetter_16 : decode cX8_isLetter 16 = .ok (.iconst 0, 1) := by decide +kernel
theorem dX8_isLetter_17 : decode cX8_isLetter 17 = .ok (.ireturn, 1) := by decide +kernel
theorem dX8_isDigit_0 : decode cX8_isDigit 0 = .ok (.iload_n 0, 1) := by decide +kernel
theorem dX8_isDigit_1 : decode cX8_isDigit 1 = .ok (.bipush 48, 2) := by decide +kernel
theorem dX8_isDigit_3 : decode cX8_isDigit 3 = .ok (.if_icmp .lt 13, 3) := by decide +kernel
theorem dX8_isDigit_6 : decode cX8_isDigit 6 = .ok (.iload_n 0, 1) := by decide +kernel
theorem dX8_isDigit_7 : decode cX8_isDigit 7 = .ok (.bipush 57, 2) := by decide +kernel
theorem dX8_isDigit_9 : decode cX8_isDigit 9 = .ok (.if_icmp .gt 7, 3) := by decide +kernel
theorem dX8_isDigit_12 : decode cX8_isDigit 12 = .ok (.iconst 1, 1) := by decide +kernel
theorem dX8_isDigit_13 : decode cX8_isDigit 13 = .ok (.goto 4, 3) := by decide +kernel
theorem dX8_isDigit_16 : decode cX8_isDigit 16 = .ok (.iconst 0, 1) := by decide +kernel
theorem dX8_isDigit_17 : decode cX8_isDigit 17 = .ok (.ireturn, 1) := by decide +kernel
theorem dX8_stepOn_0 : decode cX8_stepOn 0 = .ok (.aload_n 0, 1) := by decide +kernel
theorem dX8_stepOn_1 : decode cX8_stepOn 1 = .ok (.aload_n 0, 1) := by decide +kernel
theorem dX8_stepOn_2 : decode cX8_stepOn 2 = .ok (.getfield 141, 3) := by decide +kernel
theorem dX8_stepOn_5 : decode cX8_stepOn 5 = .ok (.invokevirtual 144, 3) := by decide +kernel
theorem dX8_stepOn_8 : decode cX8_stepOn 8 = .ok (.bipush 32, 2) := by decide +kernel
theorem dX8_stepOn_10 : decode cX8_stepOn 10 = .ok (.if_icmp .eq 16, 3) := by decide +kernel
theorem dX8_stepOn_13 : decode cX8_stepOn 13 = .ok (.aload_n 0, 1) := by decide +kernel
theorem dX8_stepOn_14 : decode cX8_stepOn 14 = .ok (.aload_n 0, 1) := by decide +kernel
theorem dX8_stepOn_15 : decode cX8_stepOn 15 = .ok (.getfield 141, 3) := by decide +kernel
theorem dX8_stepOn_18 : decode cX8_stepOn 18 = .ok (.invokevirtual 144, 3) := by decide +kernel
theorem dX8_stepOn_21 : decode cX8_stepOn 21 = .ok (.bipush 10, 2) := by decide +kernel
theorem dX8_stepOn_23 : decode cX8_stepOn 23 = .ok (.if_icmp .ne 16, 3) := by decide +kernel
theorem dX8_stepOn_26 : decode cX8_stepOn 26 = .ok (.aload_n 0, 1) := by decide +kernel
theorem dX8_stepOn_27 : decode cX8_stepOn 27 = .ok (.dup, 1) := by decide +kernel
theorem dX8_stepOn_28 : decode cX8_stepOn 28 = .ok (.getfield 141, 3) := by decide +kernel
theorem dX8_stepOn_31 : decode cX8_stepOn 31 = .ok (.iconst 1, 1) := by decide +kernel
theorem dX8_stepOn_32 : decode cX8_stepOn 32 = .ok (.iadd, 1) := by decide +kernel
theorem dX8_stepOn_33 : decode cX8_stepOn 33 = .ok (.putfield 141, 3) := by decide +kernel
theorem dX8_stepOn_36 : decode cX8_stepOn 36 = .ok (.goto (-36), 3) := by decide +kernel
theorem dX8_stepOn_39 : decode cX8_stepOn 39 = .ok (.aload_n 0, 1) := by decide +kernel
theorem dX8_stepOn_40 : decode cX8_stepOn 40 = .ok (.aload_n 0, 1) := by decide +kernel
theorem dX8_stepOn_41 : decode cX8_stepOn 41 = .ok (.getfield 141, 3) := by decide +kernel
theorem dX8_stepOn_44 : decode cX8_stepOn 44 = .ok (.putfield 148, 3) := by decide +kernel
theorem dX8_stepOn_47 : decode cX8_stepOn 47 = .ok (.aload_n 0, 1) := by decide +kernel
theorem dX8_stepOn_48 : decode cX8_stepOn 48 = .ok (.aload_n 0, 1) := by decide +kernel
theorem dX8_stepOn_49 : decode cX8_stepOn 49 = .ok (.getfield 141, 3) := by decide +kernel
theorem dX8_stepOn_52 : decode cX8_stepOn 52 = .ok (.invokevirtual 144, 3) := by decide +kernel
theorem dX8_stepOn_55 : decode cX8_stepOn 55 = .ok (.istore_n 1, 1) := by decide +kernel
theorem dX8_stepOn_56 : decode cX8_stepOn 56 = .ok (.iload_n 1, 1) := by decide +kernel
theorem dX8_stepOn_57 : decode cX8_stepOn 57 = .ok (.iconst (-1), 1) := by decide +kernel
theorem dX8_stepOn_58 : decode cX8_stepOn 58 = .ok (.if_icmp .ne 11, 3) := by decide +kernel
theorem dX8_stepOn_61 : decode cX8_stepOn 61 = .ok (.aload_n 0, 1) := by decide +kernel
theorem dX8_stepOn_62 : decode cX8_stepOn 62 = .ok (.iconst 0, 1) := by decide +kernel
theorem dX8_stepOn_63 : decode cX8_stepOn 63 = .ok (.putfield 151, 3) := by decide +kernel
theorem dX8_stepOn_66 : decode cX8_stepOn 66 = .ok (.goto 146, 3) := by decide +kernel
theorem dX8_stepOn_69 : decode cX8_stepOn 69 = .ok (.iload_n 1, 1) := by decide +kernel
theorem dX8_stepOn_70 : decode cX8_stepOn 70 = .ok (.invokestatic 154, 3) := by decide +kernel
theorem dX8_stepOn_73 : decode cX8_stepOn 73 = .ok (.ifCond .eq 38, 3) := by decide +kernel
theorem dX8_stepOn_76 : decode cX8_stepOn 76 = .ok (.aload_n 0, 1) := by decide +kernel
theorem dX8_stepOn_77 : decode cX8_stepOn 77 = .ok (.aload_n 0, 1) := by decide +kernel
theorem dX8_stepOn_78 : decode cX8_stepOn 78 = .ok (.getfield 141, 3) := by decide +kernel
theorem dX8_stepOn_81 : decode cX8_stepOn 81 = .ok (.invokevirtual 144, 3) := by decide +kernel
theorem dX8_stepOn_84 : decode cX8_stepOn 84 = .ok (.invokestatic 154, 3) := by decide +kernel
theorem dX8_stepOn_87 : decode cX8_stepOn 87 = .ok (.ifCond .eq 16, 3) := by decide +kernel
theorem dX8_stepOn_90 : decode cX8_stepOn 90 = .ok (.aload_n 0, 1) := by decide +kernel
theorem dX8_stepOn_91 : decode cX8_stepOn 91 = .ok (.dup, 1) := by decide +kernel
theorem dX8_stepOn_92 : decode cX8_stepOn 92 = .ok (.getfield 141, 3) := by decide +kernel
theorem dX8_stepOn_95 : decode cX8_stepOn 95 = .ok (.iconst 1, 1) := by decide +kernel
theorem dX8_stepOn_96 : decode cX8_stepOn 96 = .ok (.iadd, 1) := by decide +kernel
theorem dX8_stepOn_97 : decode cX8_stepOn 97 = .ok (.putfield 141, 3) := by decide +kernel
theorem dX8_stepOn_100 : decode cX8_stepOn 100 = .ok (.goto (-24), 3) := by decide +kernel
theorem dX8_stepOn_103 : decode cX8_stepOn 103 = .ok (.aload_n 0, 1) := by decide +kernel
theorem dX8_stepOn_104 : decode cX8_stepOn 104 = .ok (.iconst 1, 1) := by decide +kernel
theorem dX8_stepOn_105 : decode cX8_stepOn 105 = .ok (.putfield 151, 3) := by decide +kernel
theorem dX8_stepOn_108 : decode cX8_stepOn 108 = .ok (.goto 104, 3) := by decide +kernel
theorem dX8_stepOn_111 : decode cX8_stepOn 111 = .ok (.iload_n 1, 1) := by decide +kernel
theorem dX8_stepOn_112 : decode cX8_stepOn 112 = .ok (.invokestatic 158, 3) := by decide +kernel
theorem dX8_stepOn_115 : decode cX8_stepOn 115 = .ok (.ifCond .eq 72, 3) := by decide +kernel
theorem dX8_stepOn_118 : decode cX8_stepOn 118 = .ok (.aload_n 0, 1) := by decide +kernel
theorem dX8_stepOn_119 : decode cX8_stepOn 119 = .ok (.iconst 0, 1) := by decide +kernel
theorem dX8_stepOn_120 : decode cX8_stepOn 120 = .ok (.putfield 161, 3) := by decide +kernel
theorem dX8_stepOn_123 : decode cX8_stepOn 123 = .ok (.aload_n 0, 1) := by decide +kernel
theorem dX8_stepOn_124 : decode cX8_stepOn 124 = .ok (.aload_n 0, 1) := by decide +kernel
theorem dX8_stepOn_125 : decode cX8_stepOn 125 = .ok (.getfield 141, 3) := by decide +kernel
theorem dX8_stepOn_128 : decode cX8_stepOn 128 = .ok (.invokevirtual 144, 3) := by decide +kernel
theorem dX8_stepOn_131 : decode cX8_stepOn 131 = .ok (.invokestatic 158, 3) := by decide +kernel
theorem dX8_stepOn_134 : decode cX8_stepOn 134 = .ok (.ifCond .eq 45, 3) := by decide +kernel
theorem dX8_stepOn_137 : decode cX8_stepOn 137 = .ok (.aload_n 0, 1) := by decide +kernel
theorem dX8_stepOn_138 : decode cX8_stepOn 138 = .ok (.sipush 10000, 3) := by decide +kernel
theorem dX8_stepOn_141 : decode cX8_stepOn 141 = .ok (.bipush 10, 2) := by decide +kernel
theorem dX8_stepOn_143 : decode cX8_stepOn 143 = .ok (.aload_n 0, 1) := by decide +kernel
theorem dX8_stepOn_144 : decode cX8_stepOn 144 = .ok (.getfield 161, 3) := by decide +kernel
theorem dX8_stepOn_147 : decode cX8_stepOn 147 = .ok (.imul, 1) := by decide +kernel
theorem dX8_stepOn_148 : decode cX8_stepOn 148 = .ok (.aload_n 0, 1) := by decide +kernel
theorem dX8_stepOn_149 : decode cX8_stepOn 149 = .ok (.aload_n 0, 1) := by decide +kernel
theorem dX8_stepOn_150 : decode cX8_stepOn 150 = .ok (.getfield 141, 3) := by decide +kernel
theorem dX8_stepOn_153 : decode cX8_stepOn 153 = .ok (.invokevirtual 144, 3) := by decide +kernel
theorem dX8_stepOn_156 : decode cX8_stepOn 156 = .ok (.iadd, 1) := by decide +kernel
theorem dX8_stepOn_157 : decode cX8_stepOn 157 = .ok (.bipush 48, 2) := by decide +kernel
theorem dX8_stepOn_159 : decode cX8_stepOn 159 = .ok (.isub, 1) := by decide +kernel
theorem dX8_stepOn_160 : decode cX8_stepOn 160 = .ok (.invokestatic 164, 3) := by decide +kernel
theorem dX8_stepOn_163 : decode cX8_stepOn 163 = .ok (.putfield 161, 3) := by decide +kernel
theorem dX8_stepOn_166 : decode cX8_stepOn 166 = .ok (.aload_n 0, 1) := by decide +kernel
theorem dX8_stepOn_167 : decode cX8_stepOn 167 = .ok (.dup, 1) := by decide +kernel
theorem dX8_stepOn_168 : decode cX8_stepOn 168 = .ok (.getfield 141, 3) := by decide +kernel
theorem dX8_stepOn_171 : decode cX8_stepOn 171 = .ok (.iconst 1, 1) := by decide +kernel
theorem dX8_stepOn_172 : decode cX8_stepOn 172 = .ok (.iadd, 1) := by decide +kernel
theorem dX8_stepOn_173 : decode cX8_stepOn 173 = .ok (.putfield 141, 3) := by decide +kernel
theorem dX8_stepOn_176 : decode cX8_stepOn 176 = .ok (.goto (-53), 3) := by decide +kernel
theorem dX8_stepOn_179 : decode cX8_stepOn 179 = .ok (.aload_n 0, 1) := by decide +kernel
theorem dX8_stepOn_180 : decode cX8_stepOn 180 = .ok (.iconst 2, 1) := by decide +kernel
theorem dX8_stepOn_181 : decode cX8_stepOn 181 = .ok (.putfield 151, 3) := by decide +kernel
theorem dX8_stepOn_184 : decode cX8_stepOn 184 = .ok (.goto 28, 3) := by decide +kernel
theorem dX8_stepOn_187 : decode cX8_stepOn 187 = .ok (.aload_n 0, 1) := by decide +kernel
theorem dX8_stepOn_188 : decode cX8_stepOn 188 = .ok (.dup, 1) := by decide +kernel
theorem dX8_stepOn_189 : decode cX8_stepOn 189 = .ok (.getfield 141, 3) := by decide +kernel
theorem dX8_stepOn_192 : decode cX8_stepOn 192 = .ok (.iconst 1, 1) := by decide +kernel
theorem dX8_stepOn_193 : decode cX8_stepOn 193 = .ok (.iadd, 1) := by decide +kernel
theorem dX8_stepOn_194 : decode cX8_stepOn 194 = .ok (.putfield 141, 3) := by decide +kernel
theorem dX8_stepOn_197 : decode cX8_stepOn 197 = .ok (.aload_n 0, 1) := by decide +kernel
theorem dX8_stepOn_198 : decode cX8_stepOn 198 = .ok (.iload_n 1, 1) := by decide +kernel
theorem dX8_stepOn_199 : decode cX8_stepOn 199 = .ok (.bipush 59, 2) := by decide +kernel
theorem dX8_stepOn_201 : decode cX8_stepOn 201 = .ok (.if_icmp .ne 7, 3) := by decide +kernel
theorem dX8_stepOn_204 : decode cX8_stepOn 204 = .ok (.iconst 3, 1) := by decide +kernel
theorem dX8_stepOn_205 : decode cX8_stepOn 205 = .ok (.goto 4, 3) := by decide +kernel
theorem dX8_stepOn_208 : decode cX8_stepOn 208 = .ok (.iconst 4, 1) := by decide +kernel
theorem dX8_stepOn_209 : decode cX8_stepOn 209 = .ok (.putfield 151, 3) := by decide +kernel
theorem dX8_stepOn_212 : decode cX8_stepOn 212 = .ok (.aload_n 0, 1) := by decide +kernel
theorem dX8_stepOn_213 : decode cX8_stepOn 213 = .ok (.aload_n 0, 1) := by decide +kernel
theorem dX8_stepOn_214 : decode cX8_stepOn 214 = .ok (.getfield 141, 3) := by decide +kernel
theorem dX8_stepOn_217 : decode cX8_stepOn 217 = .ok (.putfield 170, 3) := by decide +kernel
theorem dX8_stepOn_220 : decode cX8_stepOn 220 = .ok (.return_, 1) := by decide +kernel
theorem dX8_wrong_0 : decode cX8_wrong 0 = .ok (.aload_n 0, 1) := by decide +kernel
theorem dX8_wrong_1 : decode cX8_wrong 1 = .ok (.getfield 173, 3) := by decide +kernel
theorem dX8_wrong_4 : decode cX8_wrong 4 = .ok (.ifCond .eq 4, 3) := by decide +kernel
theorem dX8_wrong_7 : decode cX8_wrong 7 = .ok (.return_, 1) := by decide +kernel
theorem dX8_wrong_8 : decode cX8_wrong 8 = .ok (.aload_n 0, 1) := by decide +kernel
theorem dX8_wrong_9 : decode cX8_wrong 9 = .ok (.iload_n 1, 1) := by decide +kernel
theorem dX8_wrong_10 : decode cX8_wrong 10 = .ok (.putfield 173, 3) := by decide +kernel
theorem dX8_wrong_13 : decode cX8_wrong 13 = .ok (.aload_n 0, 1) := by decide +kernel
theorem dX8_wrong_14 : decode cX8_wrong 14 = .ok (.aload_n 0, 1) := by decide +kernel
theorem dX8_wrong_15 : decode cX8_wrong 15 = .ok (.getfield 148, 3) := by decide +kernel
theorem dX8_wrong_18 : decode cX8_wrong 18 = .ok (.putfield 176, 3) := by decide +kernel
theorem dX8_wrong_21 : decode cX8_wrong 21 = .ok (.return_, 1) := by decide +kernel
theorem dX8_is_0 : decode cX8_is 0 = .ok (.aload_n 0, 1) := by decide +kernel
theorem dX8_is_1 : decode cX8_is 1 = .ok (.getfield 173, 3) := by decide +kernel
theorem dX8_is_4 : decode cX8_is 4 = .ok (.ifCond .ne 31, 3) := by decide +kernel
theorem dX8_is_7 : decode cX8_is 7 = .ok (.aload_n 0, 1) := by decide +kernel
theorem dX8_is_8 : decode cX8_is 8 = .ok (.getfield 151, 3) := by decide +kernel
theorem dX8_is_11 : decode cX8_is 11 = .ok (.iconst 1, 1) := by decide +kernel
theorem dX8_is_12 : decode cX8_is 12 = .ok (.if_icmp .ne 23, 3) := by decide +kernel
theorem dX8_is_15 : decode cX8_is 15 = .ok (.aload_n 1, 1) := by decide +kernel
theorem dX8_is_16 : decode cX8_is 16 = .ok (.invokevirtual 179, 3) := by decide +kernel
theorem dX8_is_19 : decode cX8_is 19 = .ok (.aload_n 0, 1) := by decide +kernel
theorem dX8_is_20 : decode cX8_is 20 = .ok (.getfield 170, 3) := by decide +kernel
theorem dX8_is_23 : decode cX8_is 23 = .ok (.aload_n 0, 1) := by decide +kernel
theorem dX8_is_24 : decode cX8_is 24 = .ok (.getfield 148, 3) := by decide +kernel
theorem dX8_is_27 : decode cX8_is 27 = .ok (.isub, 1) := by decide +kernel
theorem dX8_is_28 : decode cX8_is 28 = .ok (.if_icmp .ne 7, 3) := by decide +kernel
theorem dX8_is_31 : decode cX8_is 31 = .ok (.iconst 1, 1) := by decide +kernel
theorem dX8_is_32 : decode cX8_is 32 = .ok (.goto 4, 3) := by decide +kernel
theorem dX8_is_35 : decode cX8_is 35 = .ok (.iconst 0, 1) := by decide +kernel
theorem dX8_is_36 : decode cX8_is 36 = .ok (.istore_n 2, 1) := by decide +kernel
theorem dX8_is_37 : decode cX8_is 37 = .ok (.iconst 0, 1) := by decide +kernel
theorem dX8_is_38 : decode cX8_is 38 = .ok (.istore_n 3, 1) := by decide +kernel
theorem dX8_is_39 : decode cX8_is 39 = .ok (.iload_n 2, 1) := by decide +kernel
theorem dX8_is_40 : decode cX8_is 40 = .ok (.ifCond .eq 42, 3) := by decide +kernel
theorem dX8_is_43 : decode cX8_is 43 = .ok (.iload_n 3, 1) := by decide +kernel
theorem dX8_is_44 : decode cX8_is 44 = .ok (.aload_n 1, 1) := by decide +kernel
theorem dX8_is_45 : decode cX8_is 45 = .ok (.invokevirtual 179, 3) := by decide +kernel
theorem dX8_is_48 : decode cX8_is 48 = .ok (.if_icmp .ge 34, 3) := by decide +kernel
theorem dX8_is_51 : decode cX8_is 51 = .ok (.aload_n 1, 1) := by decide +kernel
theorem dX8_is_52 : decode cX8_is 52 = .ok (.iload_n 3, 1) := by decide +kernel
theorem dX8_is_53 : decode cX8_is 53 = .ok (.invokevirtual 185, 3) := by decide +kernel
theorem dX8_is_56 : decode cX8_is 56 = .ok (.aload_n 0, 1) := by decide +kernel
theorem dX8_is_57 : decode cX8_is 57 = .ok (.getfield 55, 3) := by decide +kernel
theorem dX8_is_60 : decode cX8_is 60 = .ok (.aload_n 0, 1) := by decide +kernel
theorem dX8_is_61 : decode cX8_is 61 = .ok (.getfield 148, 3) := by decide +kernel
theorem dX8_is_64 : decode cX8_is 64 = .ok (.iload_n 3, 1) := by decide +kernel
theorem dX8_is_65 : decode cX8_is 65 = .ok (.iadd, 1) := by decide +kernel
theorem dX8_is_66 : decode cX8_is 66 = .ok (.iaload, 1) := by decide +kernel
theorem dX8_is_67 : decode cX8_is 67 = .ok (.if_icmp .ne 7, 3) := by decide +kernel
theorem dX8_is_70 : decode cX8_is 70 = .ok (.iconst 1, 1) := by decide +kernel
theorem dX8_is_71 : decode cX8_is 71 = .ok (.goto 4, 3) := by decide +kernel
theorem dX8_is_74 : decode cX8_is 74 = .ok (.iconst 0, 1) := by decide +kernel
theorem dX8_is_75 : decode cX8_is 75 = .ok (.istore_n 2, 1) := by decide +kernel
theorem dX8_is_76 : decode cX8_is 76 = .ok (.iinc 3 1, 3) := by decide +kernel
theorem dX8_is_79 : decode cX8_is 79 = .ok (.goto (-40), 3) := by decide +kernel
theorem dX8_is_82 : decode cX8_is 82 = .ok (.iload_n 2, 1) := by decide +kernel
theorem dX8_is_83 : decode cX8_is 83 = .ok (.ireturn, 1) := by decide +kernel
theorem dX8_passes_0 : decode cX8_passes 0 = .ok (.aload_n 0, 1) := by decide +kernel
theorem dX8_passes_1 : decode cX8_passes 1 = .ok (.aload_n 1, 1) := by decide +kernel
theorem dX8_passes_2 : decode cX8_passes 2 = .ok (.invokevirtual 189, 3) := by decide +kernel
theorem dX8_passes_5 : decode cX8_passes 5 = .ok (.istore_n 2, 1) := by decide +kernel
theorem dX8_passes_6 : decode cX8_passes 6 = .ok (.iload_n 2, 1) := by decide +kernel
theorem dX8_passes_7 : decode cX8_passes 7 = .ok (.ifCond .eq 7, 3) := by decide +kernel
theorem dX8_passes_10 : decode cX8_passes 10 = .ok (.aload_n 0, 1) := by decide +kernel
theorem dX8_passes_11 : decode cX8_passes 11 = .ok (.invokevirtual 193, 3) := by decide +kernel
theorem dX8_passes_14 : decode cX8_passes 14 = .ok (.iload_n 2, 1) := by decide +kernel
theorem dX8_passes_15 : decode cX8_passes 15 = .ok (.ireturn, 1) := by decide +kernel
theorem dX8_word_0 : decode cX8_word 0 = .ok (.aload_n 0, 1) := by decide +kernel
theorem dX8_word_1 : decode cX8_word 1 = .ok (.getfield 173, 3) := by decide +kernel
theorem dX8_word_4 : decode cX8_word 4 = .ok (.ifCond .ne 16, 3) := by decide +kernel
theorem dX8_word_7 : decode cX8_word 7 = .ok (.aload_n 0, 1) := by decide +kernel
theorem dX8_word_8 : decode cX8_word 8 = .ok (.aload_n 1, 1) := by decide +kernel
theorem dX8_word_9 : decode cX8_word 9 = .ok (.invokevirtual 189, 3) := by decide +kernel
theorem dX8_word_12 : decode cX8_word 12 = .ok (.ifCond .ne 8, 3) := by decide +kernel
theorem dX8_word_15 : decode cX8_word 15 = .ok (.aload_n 0, 1) := by decide +kernel
theorem dX8_word_16 : decode cX8_word 16 = .ok (.iconst 1, 1) := by decide +kernel
theorem dX8_word_17 : decode cX8_word 17 = .ok (.invokevirtual 196, 3) := by decide +kernel
theorem dX8_word_20 : decode cX8_word 20 = .ok (.aload_n 0, 1) := by decide +kernel
theorem dX8_word_21 : decode cX8_word 21 = .ok (.getfield 173, 3) := by decide +kernel
theorem dX8_word_24 : decode cX8_word 24 = .ok (.ifCond .ne 7, 3) := by decide +kernel
theorem dX8_word_27 : decode cX8_word 27 = .ok (.aload_n 0, 1) := by decide +kernel
theorem dX8_word_28 : decode cX8_word 28 = .ok (.invokevirtual 193, 3) := by decide +kernel
theorem dX8_word_31 : decode cX8_word 31 = .ok (.return_, 1) := by decide +kernel
theorem dX8_readNumber_0 : decode cX8_readNumber 0 = .ok (.aload_n 0, 1) := by decide +kernel
theorem dX8_readNumber_1 : decode cX8_readNumber 1 = .ok (.getfield 173, 3) := by decide +kernel
theorem dX8_readNumber_4 : decode cX8_readNumber 4 = .ok (.ifCond .eq 5, 3) := by decide +kernel
theorem dX8_readNumber_7 : decode cX8_readNumber 7 = .ok (.iconst 0, 1) := by decide +kernel
theorem dX8_readNumber_8 : decode cX8_readNumber 8 = .ok (.ireturn, 1) := by decide +kernel
theorem dX8_readNumber_9 : decode cX8_readNumber 9 = .ok (.aload_n 0, 1) := by decide +kernel
theorem dX8_readNumber_10 : decode cX8_readNumber 10 = .ok (.getfield 151, 3) := by decide +kernel
theorem dX8_readNumber_13 : decode cX8_readNumber 13 = .ok (.iconst 2, 1) := by decide +kernel
theorem dX8_readNumber_14 : decode cX8_readNumber 14 = .ok (.if_icmp .eq 11, 3) := by decide +kernel
theorem dX8_readNumber_17 : decode cX8_readNumber 17 = .ok (.aload_n 0, 1) := by decide +kernel
theorem dX8_readNumber_18 : decode cX8_readNumber 18 = .ok (.iconst 1, 1) := by decide +kernel
theorem dX8_readNumber_19 : decode cX8_readNumber 19 = .ok (.invokevirtual 196, 3) := by decide +kernel
theorem dX8_readNumber_22 : decode cX8_readNumber 22 = .ok (.goto 37, 3) := by decide +kernel
theorem dX8_readNumber_25 : decode cX8_readNumber 25 = .ok (.aload_n 0, 1) := by decide +kernel
theorem dX8_readNumber_26 : decode cX8_readNumber 26 = .ok (.getfield 170, 3) := by decide +kernel
theorem dX8_readNumber_29 : decode cX8_readNumber 29 = .ok (.aload_n 0, 1) := by decide +kernel
theorem dX8_readNumber_30 : decode cX8_readNumber 30 = .ok (.getfield 148, 3) := by decide +kernel
theorem dX8_readNumber_33 : decode cX8_readNumber 33 = .ok (.isub, 1) := by decide +kernel
theorem dX8_readNumber_34 : decode cX8_readNumber 34 = .ok (.iconst 3, 1) := by decide +kernel
theorem dX8_readNumber_35 : decode cX8_readNumber 35 = .ok (.if_icmp .gt 19, 3) := by decide +kernel
theorem dX8_readNumber_38 : decode cX8_readNumber 38 = .ok (.aload_n 0, 1) := by decide +kernel
theorem dX8_readNumber_39 : decode cX8_readNumber 39 = .ok (.getfield 161, 3) := by decide +kernel
theorem dX8_readNumber_42 : decode cX8_readNumber 42 = .ok (.iload_n 1, 1) := by decide +kernel
theorem dX8_readNumber_43 : decode cX8_readNumber 43 = .ok (.if_icmp .lt 11, 3) := by decide +kernel
theorem dX8_readNumber_46 : decode cX8_readNumber 46 = .ok (.aload_n 0, 1) := by decide +kernel
theorem dX8_readNumber_47 : decode cX8_readNumber 47 = .ok (.getfield 161, 3) := by decide +kernel
theorem dX8_readNumber_50 : decode cX8_readNumber 50 = .ok (.iload_n 2, 1) := by decide +kernel
theorem dX8_readNumber_51 : decode cX8_readNumber 51 = .ok (.if_icmp .le 8, 3) := by decide +kernel
theorem dX8_readNumber_54 : decode cX8_readNumber 54 = .ok (.aload_n 0, 1) := by decide +kernel
theorem dX8_readNumber_55 : decode cX8_readNumber 55 = .ok (.iconst 2, 1) := by decide +kernel
theorem dX8_readNumber_56 : decode cX8_readNumber 56 = .ok (.invokevirtual 196, 3) := by decide +kernel
theorem dX8_readNumber_59 : decode cX8_readNumber 59 = .ok (.aload_n 0, 1) := by decide +kernel
theorem dX8_readNumber_60 : decode cX8_readNumber 60 = .ok (.getfield 161, 3) := by decide +kernel
theorem dX8_readNumber_63 : decode cX8_readNumber 63 = .ok (.istore_n 3, 1) := by decide +kernel
theorem dX8_readNumber_64 : decode cX8_readNumber 64 = .ok (.aload_n 0, 1) := by decide +kernel
theorem dX8_readNumber_65 : decode cX8_readNumber 65 = .ok (.getfield 173, 3) := by decide +kernel
theorem dX8_readNumber_68 : decode cX8_readNumber 68 = .ok (.ifCond .ne 7, 3) := by decide +kernel
theorem dX8_readNumber_71 : decode cX8_readNumber 71 = .ok (.aload_n 0, 1) := by decide +kernel
theorem dX8_readNumber_72 : decode cX8_readNumber 72 = .ok (.invokevirtual 193, 3) := by decide +kernel
theorem dX8_readNumber_75 : decode cX8_readNumber 75 = .ok (.iload_n 3, 1) := by decide +kernel
theorem dX8_readNumber_76 : decode cX8_readNumber 76 = .ok (.ireturn, 1) := by decide +kernel
theorem dX8_readOne_0 : decode cX8_readOne 0 = .ok (.aload_n 0, 1) := by decide +kernel
theorem dX8_readOne_1 : decode cX8_readOne 1 = .ok (.getfield 173, 3) := by decide +kernel
theorem dX8_readOne_4 : decode cX8_readOne 4 = .ok (.ifCond .eq 5, 3) := by decide +kernel
theorem dX8_readOne_7 : decode cX8_readOne 7 = .ok (.iconst 0, 1) := by decide +kernel
theorem dX8_readOne_8 : decode cX8_readOne 8 = .ok (.ireturn, 1) := by decide +kernel
theorem dX8_readOne_9 : decode cX8_readOne 9 = .ok (.aload_n 0, 1) := by decide +kernel
theorem dX8_readOne_10 : decode cX8_readOne 10 = .ok (.getfield 151, 3) := by decide +kernel
theorem dX8_readOne_13 : decode cX8_readOne 13 = .ok (.iconst 2, 1) := by decide +kernel
theorem dX8_readOne_14 : decode cX8_readOne 14 = .ok (.if_icmp .eq 11, 3) := by decide +kernel
theorem dX8_readOne_17 : decode cX8_readOne 17 = .ok (.aload_n 0, 1) := by decide +kernel
theorem dX8_readOne_18 : decode cX8_readOne 18 = .ok (.iconst 1, 1) := by decide +kernel
theorem dX8_readOne_19 : decode cX8_readOne 19 = .ok (.invokevirtual 196, 3) := by decide +kernel
theorem dX8_readOne_22 : decode cX8_readOne 22 = .ok (.goto 57, 3) := by decide +kernel
theorem dX8_readOne_25 : decode cX8_readOne 25 = .ok (.aload_n 0, 1) := by decide +kernel
theorem dX8_readOne_26 : decode cX8_readOne 26 = .ok (.getfield 170, 3) := by decide +kernel
theorem dX8_readOne_29 : decode cX8_readOne 29 = .ok (.aload_n 0, 1) := by decide +kernel
theorem dX8_readOne_30 : decode cX8_readOne 30 = .ok (.getfield 148, 3) := by decide +kernel
theorem dX8_readOne_33 : decode cX8_readOne 33 = .ok (.isub, 1) := by decide +kernel
theorem dX8_readOne_34 : decode cX8_readOne 34 = .ok (.iconst 3, 1) := by decide +kernel
theorem dX8_readOne_35 : decode cX8_readOne 35 = .ok (.if_icmp .le 11, 3) := by decide +kernel
theorem dX8_readOne_38 : decode cX8_readOne 38 = .ok (.aload_n 0, 1) := by decide +kernel
theorem dX8_readOne_39 : decode cX8_readOne 39 = .ok (.iconst 2, 1) := by decide +kernel
theorem dX8_readOne_40 : decode cX8_readOne 40 = .ok (.invokevirtual 196, 3) := by decide +kernel
theorem dX8_readOne_43 : decode cX8_readOne 43 = .ok (.goto 36, 3) := by decide +kernel
theorem dX8_readOne_46 : decode cX8_readOne 46 = .ok (.aload_n 0, 1) := by decide +kernel
theorem dX8_readOne_47 : decode cX8_readOne 47 = .ok (.getfield 161, 3) := by decide +kernel
theorem dX8_readOne_50 : decode cX8_readOne 50 = .ok (.iload_n 1, 1) := by decide +kernel
theorem dX8_readOne_51 : decode cX8_readOne 51 = .ok (.if_icmp .lt 11, 3) := by decide +kernel
theorem dX8_readOne_54 : decode cX8_readOne 54 = .ok (.aload_n 0, 1) := by decide +kernel
theorem dX8_readOne_55 : decode cX8_readOne 55 = .ok (.iconst 3, 1) := by decide +kernel
theorem dX8_readOne_56 : decode cX8_readOne 56 = .ok (.invokevirtual 196, 3) := by decide +kernel
theorem dX8_readOne_59 : decode cX8_readOne 59 = .ok (.goto 20, 3) := by decide +kernel
theorem dX8_readOne_62 : decode cX8_readOne 62 = .ok (.iload_n 2, 1) := by decide +kernel
theorem dX8_readOne_63 : decode cX8_readOne 63 = .ok (.aload_n 0, 1) := by decide +kernel
theorem dX8_readOne_64 : decode cX8_readOne 64 = .ok (.getfield 161, 3) := by decide +kernel
theorem dX8_readOne_67 : decode cX8_readOne 67 = .ok (.ishr, 1) := by decide +kernel
theorem dX8_readOne_68 : decode cX8_readOne 68 = .ok (.iconst 1, 1) := by decide +kernel
theorem dX8_readOne_69 : decode cX8_readOne 69 = .ok (.iand, 1) := by decide +kernel
theorem dX8_readOne_70 : decode cX8_readOne 70 = .ok (.iconst 1, 1) := by decide +kernel
theorem dX8_readOne_71 : decode cX8_readOne 71 = .ok (.if_icmp .ne 8, 3) := by decide +kernel
theorem dX8_readOne_74 : decode cX8_readOne 74 = .ok (.aload_n 0, 1) := by decide +kernel
theorem dX8_readOne_75 : decode cX8_readOne 75 = .ok (.iconst 4, 1) := by decide +kernel
theorem dX8_readOne_76 : decode cX8_readOne 76 = .ok (.invokevirtual 196, 3) := by decide +kernel
theorem dX8_readOne_79 : decode cX8_readOne 79 = .ok (.aload_n 0, 1) := by decide +kernel
theorem dX8_readOne_80 : decode cX8_readOne 80 = .ok (.getfield 161, 3) := by decide +kernel
theorem dX8_readOne_83 : decode cX8_readOne 83 = .ok (.istore_n 3, 1) := by decide +kernel
theorem dX8_readOne_84 : decode cX8_readOne 84 = .ok (.aload_n 0, 1) := by decide +kernel
theorem dX8_readOne_85 : decode cX8_readOne 85 = .ok (.getfield 173, 3) := by decide +kernel
theorem dX8_readOne_88 : decode cX8_readOne 88 = .ok (.ifCond .ne 7, 3) := by decide +kernel
theorem dX8_readOne_91 : decode cX8_readOne 91 = .ok (.aload_n 0, 1) := by decide +kernel
theorem dX8_readOne_92 : decode cX8_readOne 92 = .ok (.invokevirtual 193, 3) := by decide +kernel
theorem dX8_readOne_95 : decode cX8_readOne 95 = .ok (.iload_n 3, 1) := by decide +kernel
theorem dX8_readOne_96 : decode cX8_readOne 96 = .ok (.ireturn, 1) := by decide +kernel
theorem dX8_semi_0 : decode cX8_semi 0 = .ok (.aload_n 0, 1) := by decide +kernel
theorem dX8_semi_1 : decode cX8_semi 1 = .ok (.getfield 173, 3) := by decide +kernel
theorem dX8_semi_4 : decode cX8_semi 4 = .ok (.ifCond .ne 16, 3) := by decide +kernel
theorem dX8_semi_7 : decode cX8_semi 7 = .ok (.aload_n 0, 1) := by decide +kernel
theorem dX8_semi_8 : decode cX8_semi 8 = .ok (.getfield 151, 3) := by decide +kernel
theorem dX8_semi_11 : decode cX8_semi 11 = .ok (.iconst 3, 1) := by decide +kernel
theorem dX8_semi_12 : decode cX8_semi 12 = .ok (.if_icmp .eq 8, 3) := by decide +kernel
theorem dX8_semi_15 : decode cX8_semi 15 = .ok (.aload_n 0, 1) := by decide +kernel
theorem dX8_semi_16 : decode cX8_semi 16 = .ok (.iconst 1, 1) := by decide +kernel
theorem dX8_semi_17 : decode cX8_semi 17 = .ok (.invokevirtual 196, 3) := by decide +kernel
theorem dX8_semi_20 : decode cX8_semi 20 = .ok (.aload_n 0, 1) := by decide +kernel
theorem dX8_semi_21 : decode cX8_semi 21 = .ok (.getfield 173, 3) := by decide +kernel
theorem dX8_semi_24 : decode cX8_semi 24 = .ok (.ifCond .ne 7, 3) := by decide +kernel
theorem dX8_semi_27 : decode cX8_semi 27 = .ok (.aload_n 0, 1) := by decide +kernel
theorem dX8_semi_28 : decode cX8_semi 28 = .ok (.invokevirtual 193, 3) := by decide +kernel
theorem dX8_semi_31 : decode cX8_semi 31 = .ok (.return_, 1) := by decide +kernel
theorem dX8_readMeeting_0 : decode cX8_readMeeting 0 = .ok (.aload_n 0, 1) := by decide +kernel
theorem dX8_readMeeting_1 : decode cX8_readMeeting 1 = .ok (.getfield 7, 3) := by decide +kernel
theorem dX8_readMeeting_4 : decode cX8_readMeeting 4 = .ok (.iconst 4, 1) := by decide +kernel
theorem dX8_readMeeting_5 : decode cX8_readMeeting 5 = .ok (.iaload, 1) := by decide +kernel
theorem dX8_readMeeting_6 : decode cX8_readMeeting 6 = .ok (.bipush 12, 2) := by decide +kernel
theorem dX8_readMeeting_8 : decode cX8_readMeeting 8 = .ok (.if_icmp .ne 8, 3) := by decide +kernel
theorem dX8_readMeeting_11 : decode cX8_readMeeting 11 = .ok (.aload_n 0, 1) := by decide +kernel
theorem dX8_readMeeting_12 : decode cX8_readMeeting 12 = .ok (.iconst 2, 1) := by decide +kernel
theorem dX8_readMeeting_13 : decode cX8_readMeeting 13 = .ok (.invokevirtual 196, 3) := by decide +kernel
theorem dX8_readMeeting_16 : decode cX8_readMeeting 16 = .ok (.aload_n 0, 1) := by decide +kernel
theorem dX8_readMeeting_17 : decode cX8_readMeeting 17 = .ok (.getfield 173, 3) := by decide +kernel
theorem dX8_readMeeting_20 : decode cX8_readMeeting 20 = .ok (.ifCond .eq 4, 3) := by decide +kernel
theorem dX8_readMeeting_23 : decode cX8_readMeeting 23 = .ok (.return_, 1) := by decide +kernel
theorem dX8_readMeeting_24 : decode cX8_readMeeting 24 = .ok (.aload_n 0, 1) := by decide +kernel
theorem dX8_readMeeting_25 : decode cX8_readMeeting 25 = .ok (.invokevirtual 193, 3) := by decide +kernel
theorem dX8_readMeeting_28 : decode cX8_readMeeting 28 = .ok (.bipush 12, 2) := by decide +kernel
theorem dX8_readMeeting_30 : decode cX8_readMeeting 30 = .ok (.aload_n 0, 1) := by decide +kernel
theorem dX8_readMeeting_31 : decode cX8_readMeeting 31 = .ok (.getfield 7, 3) := by decide +kernel
theorem dX8_readMeeting_34 : decode cX8_readMeeting 34 = .ok (.iconst 4, 1) := by decide +kernel
theorem dX8_readMeeting_35 : decode cX8_readMeeting 35 = .ok (.iaload, 1) := by decide +kernel
theorem dX8_readMeeting_36 : decode cX8_readMeeting 36 = .ok (.iadd, 1) := by decide +kernel
theorem dX8_readMeeting_37 : decode cX8_readMeeting 37 = .ok (.istore_n 1, 1) := by decide +kernel
theorem dX8_readMeeting_38 : decode cX8_readMeeting 38 = .ok (.aload_n 0, 1) := by decide +kernel
theorem dX8_readMeeting_39 : decode cX8_readMeeting 39 = .ok (.getfield 16, 3) := by decide +kernel
theorem dX8_readMeeting_42 : decode cX8_readMeeting 42 = .ok (.iload_n 1, 1) := by decide +kernel
theorem dX8_readMeeting_43 : decode cX8_readMeeting 43 = .ok (.aload_n 0, 1) := by decide +kernel
theorem dX8_readMeeting_44 : decode cX8_readMeeting 44 = .ok (.aload_n 0, 1) := by decide +kernel
theorem dX8_readMeeting_45 : decode cX8_readMeeting 45 = .ok (.getfield 7, 3) := by decide +kernel
theorem dX8_readMeeting_48 : decode cX8_readMeeting 48 = .ok (.iconst 3, 1) := by decide +kernel
theorem dX8_readMeeting_49 : decode cX8_readMeeting 49 = .ok (.iaload, 1) := by decide +kernel
theorem dX8_readMeeting_50 : decode cX8_readMeeting 50 = .ok (.iconst 0, 1) := by decide +kernel
theorem dX8_readMeeting_51 : decode cX8_readMeeting 51 = .ok (.invokevirtual 199, 3) := by decide +kernel
theorem dX8_readMeeting_54 : decode cX8_readMeeting 54 = .ok (.iastore, 1) := by decide +kernel
theorem dX8_readMeeting_55 : decode cX8_readMeeting 55 = .ok (.aload_n 0, 1) := by decide +kernel
theorem dX8_readMeeting_56 : decode cX8_readMeeting 56 = .ok (.getfield 19, 3) := by decide +kernel
theorem dX8_readMeeting_59 : decode cX8_readMeeting 59 = .ok (.iload_n 1, 1) := by decide +kernel
theorem dX8_readMeeting_60 : decode cX8_readMeeting 60 = .ok (.aload_n 0, 1) := by decide +kernel
theorem dX8_readMeeting_61 : decode cX8_readMeeting 61 = .ok (.aload_n 0, 1) := by decide +kernel
theorem dX8_readMeeting_62 : decode cX8_readMeeting 62 = .ok (.getfield 7, 3) := by decide +kernel
theorem dX8_readMeeting_65 : decode cX8_readMeeting 65 = .ok (.iconst 3, 1) := by decide +kernel
theorem dX8_readMeeting_66 : decode cX8_readMeeting 66 = .ok (.iaload, 1) := by decide +kernel
theorem dX8_readMeeting_67 : decode cX8_readMeeting 67 = .ok (.aload_n 0, 1) := by decide +kernel
theorem dX8_readMeeting_68 : decode cX8_readMeeting 68 = .ok (.getfield 173, 3) := by decide +kernel
theorem dX8_readMeeting_71 : decode cX8_readMeeting 71 = .ok (.ifCond .ne 14, 3) := by decide +kernel
theorem dX8_readMeeting_74 : decode cX8_readMeeting 74 = .ok (.iconst 1, 1) := by decide +kernel
theorem dX8_readMeeting_75 : decode cX8_readMeeting 75 = .ok (.aload_n 0, 1) := by decide +kernel
theorem dX8_readMeeting_76 : decode cX8_readMeeting 76 = .ok (.getfield 16, 3) := by decide +kernel
theorem dX8_readMeeting_79 : decode cX8_readMeeting 79 = .ok (.iload_n 1, 1) := by decide +kernel
theorem dX8_readMeeting_80 : decode cX8_readMeeting 80 = .ok (.iaload, 1) := by decide +kernel
theorem dX8_readMeeting_81 : decode cX8_readMeeting 81 = .ok (.ishl, 1) := by decide +kernel
theorem dX8_readMeeting_82 : decode cX8_readMeeting 82 = .ok (.goto 4, 3) := by decide +kernel
theorem dX8_readMeeting_85 : decode cX8_readMeeting 85 = .ok (.iconst 0, 1) := by decide +kernel
theorem dX8_readMeeting_86 : decode cX8_readMeeting 86 = .ok (.invokevirtual 199, 3) := by decide +kernel
theorem dX8_readMeeting_89 : decode cX8_readMeeting 89 = .ok (.iastore, 1) := by decide +kernel
theorem dX8_readMeeting_90 : decode cX8_readMeeting 90 = .ok (.aload_n 0, 1) := by decide +kernel
theorem dX8_readMeeting_91 : decode cX8_readMeeting 91 = .ok (.ldc 202, 2) := by decide +kernel
theorem dX8_readMeeting_93 : decode cX8_readMeeting 93 = .ok (.invokevirtual 203, 3) := by decide +kernel
theorem dX8_readMeeting_96 : decode cX8_readMeeting 96 = .ok (.aload_n 0, 1) := by decide +kernel
theorem dX8_readMeeting_97 : decode cX8_readMeeting 97 = .ok (.getfield 22, 3) := by decide +kernel
theorem dX8_readMeeting_100 : decode cX8_readMeeting 100 = .ok (.iload_n 1, 1) := by decide +kernel
theorem dX8_readMeeting_101 : decode cX8_readMeeting 101 = .ok (.aload_n 0, 1) := by decide +kernel
theorem dX8_readMeeting_102 : decode cX8_readMeeting 102 = .ok (.iconst 0, 1) := by decide +kernel
theorem dX8_readMeeting_103 : decode cX8_readMeeting 103 = .ok (.bipush 11, 2) := by decide +kernel
theorem dX8_readMeeting_105 : decode cX8_readMeeting 105 = .ok (.invokevirtual 207, 3) := by decide +kernel
theorem dX8_readMeeting_108 : decode cX8_readMeeting 108 = .ok (.iastore, 1) := by decide +kernel
theorem dX8_readMeeting_109 : decode cX8_readMeeting 109 = .ok (.aload_n 0, 1) := by decide +kernel
theorem dX8_readMeeting_110 : decode cX8_readMeeting 110 = .ok (.getfield 7, 3) := by decide +kernel
theorem dX8_readMeeting_113 : decode cX8_readMeeting 113 = .ok (.iconst 4, 1) := by decide +kernel
theorem dX8_readMeeting_114 : decode cX8_readMeeting 114 = .ok (.dup2, 1) := by decide +kernel
theorem dX8_readMeeting_115 : decode cX8_readMeeting 115 = .ok (.iaload, 1) := by decide +kernel
theorem dX8_readMeeting_116 : decode cX8_readMeeting 116 = .ok (.iconst 1, 1) := by decide +kernel
theorem dX8_readMeeting_117 : decode cX8_readMeeting 117 = .ok (.iadd, 1) := by decide +kernel
theorem dX8_readMeeting_118 : decode cX8_readMeeting 118 = .ok (.iastore, 1) := by decide +kernel
theorem dX8_readMeeting_119 : decode cX8_readMeeting 119 = .ok (.return_, 1) := by decide +kernel
theorem dX8_readPromise_0 : decode cX8_readPromise 0 = .ok (.aload_n 0, 1) := by decide +kernel
theorem dX8_readPromise_1 : decode cX8_readPromise 1 = .ok (.getfield 7, 3) := by decide +kernel
theorem dX8_readPromise_4 : decode cX8_readPromise 4 = .ok (.iconst 5, 1) := by decide +kernel
theorem dX8_readPromise_5 : decode cX8_readPromise 5 = .ok (.iaload, 1) := by decide +kernel
theorem dX8_readPromise_6 : decode cX8_readPromise 6 = .ok (.bipush 12, 2) := by decide +kernel
theorem dX8_readPromise_8 : decode cX8_readPromise 8 = .ok (.if_icmp .ne 8, 3) := by decide +kernel
theorem dX8_readPromise_11 : decode cX8_readPromise 11 = .ok (.aload_n 0, 1) := by decide +kernel
theorem dX8_readPromise_12 : decode cX8_readPromise 12 = .ok (.iconst 2, 1) := by decide +kernel
theorem dX8_readPromise_13 : decode cX8_readPromise 13 = .ok (.invokevirtual 196, 3) := by decide +kernel
theorem dX8_readPromise_16 : decode cX8_readPromise 16 = .ok (.aload_n 0, 1) := by decide +kernel
theorem dX8_readPromise_17 : decode cX8_readPromise 17 = .ok (.getfield 173, 3) := by decide +kernel
theorem dX8_readPromise_20 : decode cX8_readPromise 20 = .ok (.ifCond .eq 4, 3) := by decide +kernel
theorem dX8_readPromise_23 : decode cX8_readPromise 23 = .ok (.return_, 1) := by decide +kernel
theorem dX8_readPromise_24 : decode cX8_readPromise 24 = .ok (.aload_n 0, 1) := by decide +kernel
theorem dX8_readPromise_25 : decode cX8_readPromise 25 = .ok (.invokevirtual 193, 3) := by decide +kernel
theorem dX8_readPromise_28 : decode cX8_readPromise 28 = .ok (.bipush 12, 2) := by decide +kernel
theorem dX8_readPromise_30 : decode cX8_readPromise 30 = .ok (.aload_n 0, 1) := by decide +kernel
theorem dX8_readPromise_31 : decode cX8_readPromise 31 = .ok (.getfield 7, 3) := by decide +kernel
theorem dX8_readPromise_34 : decode cX8_readPromise 34 = .ok (.iconst 5, 1) := by decide +kernel
theorem dX8_readPromise_35 : decode cX8_readPromise 35 = .ok (.iaload, 1) := by decide +kernel
theorem dX8_readPromise_36 : decode cX8_readPromise 36 = .ok (.iadd, 1) := by decide +kernel
theorem dX8_readPromise_37 : decode cX8_readPromise 37 = .ok (.istore_n 1, 1) := by decide +kernel
theorem dX8_readPromise_38 : decode cX8_readPromise 38 = .ok (.aload_n 0, 1) := by decide +kernel
theorem dX8_readPromise_39 : decode cX8_readPromise 39 = .ok (.getfield 25, 3) := by decide +kernel
theorem dX8_readPromise_42 : decode cX8_readPromise 42 = .ok (.iload_n 1, 1) := by decide +kernel
theorem dX8_readPromise_43 : decode cX8_readPromise 43 = .ok (.aload_n 0, 1) := by decide +kernel
theorem dX8_readPromise_44 : decode cX8_readPromise 44 = .ok (.aload_n 0, 1) := by decide +kernel
theorem dX8_readPromise_45 : decode cX8_readPromise 45 = .ok (.getfield 7, 3) := by decide +kernel
theorem dX8_readPromise_48 : decode cX8_readPromise 48 = .ok (.iconst 3, 1) := by decide +kernel
theorem dX8_readPromise_49 : decode cX8_readPromise 49 = .ok (.iaload, 1) := by decide +kernel
theorem dX8_readPromise_50 : decode cX8_readPromise 50 = .ok (.iconst 0, 1) := by decide +kernel
theorem dX8_readPromise_51 : decode cX8_readPromise 51 = .ok (.invokevirtual 199, 3) := by decide +kernel
theorem dX8_readPromise_54 : decode cX8_readPromise 54 = .ok (.iastore, 1) := by decide +kernel
theorem dX8_readPromise_55 : decode cX8_readPromise 55 = .ok (.aload_n 0, 1) := by decide +kernel
theorem dX8_readPromise_56 : decode cX8_readPromise 56 = .ok (.getfield 28, 3) := by decide +kernel
theorem dX8_readPromise_59 : decode cX8_readPromise 59 = .ok (.iload_n 1, 1) := by decide +kernel
theorem dX8_readPromise_60 : decode cX8_readPromise 60 = .ok (.aload_n 0, 1) := by decide +kernel
theorem dX8_readPromise_61 : decode cX8_readPromise 61 = .ok (.aload_n 0, 1) := by decide +kernel
theorem dX8_readPromise_62 : decode cX8_readPromise 62 = .ok (.getfield 7, 3) := by decide +kernel
theorem dX8_readPromise_65 : decode cX8_readPromise 65 = .ok (.iconst 3, 1) := by decide +kernel
theorem dX8_readPromise_66 : decode cX8_readPromise 66 = .ok (.iaload, 1) := by decide +kernel
theorem dX8_readPromise_67 : decode cX8_readPromise 67 = .ok (.aload_n 0, 1) := by decide +kernel
theorem dX8_readPromise_68 : decode cX8_readPromise 68 = .ok (.getfield 173, 3) := by decide +kernel
theorem dX8_readPromise_71 : decode cX8_readPromise 71 = .ok (.ifCond .ne 14, 3) := by decide +kernel
theorem dX8_readPromise_74 : decode cX8_readPromise 74 = .ok (.iconst 1, 1) := by decide +kernel
theorem dX8_readPromise_75 : decode cX8_readPromise 75 = .ok (.aload_n 0, 1) := by decide +kernel
theorem dX8_readPromise_76 : decode cX8_readPromise 76 = .ok (.getfield 25, 3) := by decide +kernel
theorem dX8_readPromise_79 : decode cX8_readPromise 79 = .ok (.iload_n 1, 1) := by decide +kernel
theorem dX8_readPromise_80 : decode cX8_readPromise 80 = .ok (.iaload, 1) := by decide +kernel
theorem dX8_readPromise_81 : decode cX8_readPromise 81 = .ok (.ishl, 1) := by decide +kernel
theorem dX8_readPromise_82 : decode cX8_readPromise 82 = .ok (.goto 4, 3) := by decide +kernel
theorem dX8_readPromise_85 : decode cX8_readPromise 85 = .ok (.iconst 0, 1) := by decide +kernel
theorem dX8_readPromise_86 : decode cX8_readPromise 86 = .ok (.invokevirtual 199, 3) := by decide +kernel
theorem dX8_readPromise_89 : decode cX8_readPromise 89 = .ok (.iastore, 1) := by decide +kernel
theorem dX8_readPromise_90 : decode cX8_readPromise 90 = .ok (.aload_n 0, 1) := by decide +kernel
theorem dX8_readPromise_91 : decode cX8_readPromise 91 = .ok (.getfield 31, 3) := by decide +kernel
theorem dX8_readPromise_94 : decode cX8_readPromise 94 = .ok (.iload_n 1, 1) := by decide +kernel
theorem dX8_readPromise_95 : decode cX8_readPromise 95 = .ok (.aload_n 0, 1) := by decide +kernel
theorem dX8_readPromise_96 : decode cX8_readPromise 96 = .ok (.ldc 210, 2) := by decide +kernel
theorem dX8_readPromise_98 : decode cX8_readPromise 98 = .ok (.invokevirtual 211, 3) := by decide +kernel
theorem dX8_readPromise_101 : decode cX8_readPromise 101 = .ok (.ifCond .eq 13, 3) := by decide +kernel
theorem dX8_readPromise_104 : decode cX8_readPromise 104 = .ok (.aload_n 0, 1) := by decide +kernel
theorem dX8_readPromise_105 : decode cX8_readPromise 105 = .ok (.iconst 0, 1) := by decide +kernel
theorem dX8_readPromise_106 : decode cX8_readPromise 106 = .ok (.bipush 99, 2) := by decide +kernel
theorem dX8_readPromise_108 : decode cX8_readPromise 108 = .ok (.invokevirtual 207, 3) := by decide +kernel
theorem dX8_readPromise_111 : decode cX8_readPromise 111 = .ok (.goto 4, 3) := by decide +kernel
theorem dX8_readPromise_114 : decode cX8_readPromise 114 = .ok (.iconst 0, 1) := by decide +kernel
theorem dX8_readPromise_115 : decode cX8_readPromise 115 = .ok (.iastore, 1) := by decide +kernel
theorem dX8_readPromise_116 : decode cX8_readPromise 116 = .ok (.aload_n 0, 1) := by decide +kernel
theorem dX8_readPromise_117 : decode cX8_readPromise 117 = .ok (.ldc 202, 2) := by decide +kernel
theorem dX8_readPromise_119 : decode cX8_readPromise 119 = .ok (.invokevirtual 203, 3) := by decide +kernel
theorem dX8_readPromise_122 : decode cX8_readPromise 122 = .ok (.aload_n 0, 1) := by decide +kernel
theorem dX8_readPromise_123 : decode cX8_readPromise 123 = .ok (.getfield 34, 3) := by decide +kernel
theorem dX8_readPromise_126 : decode cX8_readPromise 126 = .ok (.iload_n 1, 1) := by decide +kernel
theorem dX8_readPromise_127 : decode cX8_readPromise 127 = .ok (.aload_n 0, 1) := by decide +kernel
theorem dX8_readPromise_128 : decode cX8_readPromise 128 = .ok (.iconst 0, 1) := by decide +kernel
theorem dX8_readPromise_129 : decode cX8_readPromise 129 = .ok (.bipush 11, 2) := by decide +kernel
theorem dX8_readPromise_131 : decode cX8_readPromise 131 = .ok (.invokevirtual 207, 3) := by decide +kernel
theorem dX8_readPromise_134 : decode cX8_readPromise 134 = .ok (.iastore, 1) := by decide +kernel
theorem dX8_readPromise_135 : decode cX8_readPromise 135 = .ok (.aload_n 0, 1) := by decide +kernel
theorem dX8_readPromise_136 : decode cX8_readPromise 136 = .ok (.getfield 37, 3) := by decide +kernel
theorem dX8_readPromise_139 : decode cX8_readPromise 139 = .ok (.iload_n 1, 1) := by decide +kernel
theorem dX8_readPromise_140 : decode cX8_readPromise 140 = .ok (.iconst 0, 1) := by decide +kernel
theorem dX8_readPromise_141 : decode cX8_readPromise 141 = .ok (.iastore, 1) := by decide +kernel
theorem dX8_readPromise_142 : decode cX8_readPromise 142 = .ok (.aload_n 0, 1) := by decide +kernel
theorem dX8_readPromise_143 : decode cX8_readPromise 143 = .ok (.ldc 214, 2) := by decide +kernel
theorem dX8_readPromise_145 : decode cX8_readPromise 145 = .ok (.invokevirtual 211, 3) := by decide +kernel
theorem dX8_readPromise_148 : decode cX8_readPromise 148 = .ok (.istore_n 2, 1) := by decide +kernel
theorem dX8_readPromise_149 : decode cX8_readPromise 149 = .ok (.iload_n 2, 1) := by decide +kernel
theorem dX8_readPromise_150 : decode cX8_readPromise 150 = .ok (.ifCond .eq 54, 3) := by decide +kernel
theorem dX8_readPromise_153 : decode cX8_readPromise 153 = .ok (.aload_n 0, 1) := by decide +kernel
theorem dX8_readPromise_154 : decode cX8_readPromise 154 = .ok (.getfield 173, 3) := by decide +kernel
theorem dX8_readPromise_157 : decode cX8_readPromise 157 = .ok (.ifCond .ne 47, 3) := by decide +kernel
theorem dX8_readPromise_160 : decode cX8_readPromise 160 = .ok (.aload_n 0, 1) := by decide +kernel
theorem dX8_readPromise_161 : decode cX8_readPromise 161 = .ok (.getfield 37, 3) := by decide +kernel
theorem dX8_readPromise_164 : decode cX8_readPromise 164 = .ok (.iload_n 1, 1) := by decide +kernel
theorem dX8_readPromise_165 : decode cX8_readPromise 165 = .ok (.dup2, 1) := by decide +kernel
theorem dX8_readPromise_166 : decode cX8_readPromise 166 = .ok (.iaload, 1) := by decide +kernel
theorem dX8_readPromise_167 : decode cX8_readPromise 167 = .ok (.iconst 1, 1) := by decide +kernel
theorem dX8_readPromise_168 : decode cX8_readPromise 168 = .ok (.aload_n 0, 1) := by decide +kernel
theorem dX8_readPromise_169 : decode cX8_readPromise 169 = .ok (.aload_n 0, 1) := by decide +kernel
theorem dX8_readPromise_170 : decode cX8_readPromise 170 = .ok (.getfield 7, 3) := by decide +kernel
theorem dX8_readPromise_173 : decode cX8_readPromise 173 = .ok (.iconst 5, 1) := by decide +kernel
theorem dX8_readPromise_174 : decode cX8_readPromise 174 = .ok (.iaload, 1) := by decide +kernel
theorem dX8_readPromise_175 : decode cX8_readPromise 175 = .ok (.aload_n 0, 1) := by decide +kernel
theorem dX8_readPromise_176 : decode cX8_readPromise 176 = .ok (.getfield 37, 3) := by decide +kernel
theorem dX8_readPromise_179 : decode cX8_readPromise 179 = .ok (.iload_n 1, 1) := by decide +kernel
theorem dX8_readPromise_180 : decode cX8_readPromise 180 = .ok (.iaload, 1) := by decide +kernel
theorem dX8_readPromise_181 : decode cX8_readPromise 181 = .ok (.invokevirtual 199, 3) := by decide +kernel
theorem dX8_readPromise_184 : decode cX8_readPromise 184 = .ok (.ishl, 1) := by decide +kernel
theorem dX8_readPromise_185 : decode cX8_readPromise 185 = .ok (.ior, 1) := by decide +kernel
theorem dX8_readPromise_186 : decode cX8_readPromise 186 = .ok (.iastore, 1) := by decide +kernel
theorem dX8_readPromise_187 : decode cX8_readPromise 187 = .ok (.aload_n 0, 1) := by decide +kernel
theorem dX8_readPromise_188 : decode cX8_readPromise 188 = .ok (.getfield 151, 3) := by decide +kernel
theorem dX8_readPromise_191 : decode cX8_readPromise 191 = .ok (.iconst 2, 1) := by decide +kernel
theorem dX8_readPromise_192 : decode cX8_readPromise 192 = .ok (.if_icmp .ne 7, 3) := by decide +kernel
theorem dX8_readPromise_195 : decode cX8_readPromise 195 = .ok (.iconst 1, 1) := by decide +kernel
theorem dX8_readPromise_196 : decode cX8_readPromise 196 = .ok (.goto 4, 3) := by decide +kernel
theorem dX8_readPromise_199 : decode cX8_readPromise 199 = .ok (.iconst 0, 1) := by decide +kernel
theorem dX8_readPromise_200 : decode cX8_readPromise 200 = .ok (.istore_n 2, 1) := by decide +kernel
theorem dX8_readPromise_201 : decode cX8_readPromise 201 = .ok (.goto (-52), 3) := by decide +kernel
theorem dX8_readPromise_204 : decode cX8_readPromise 204 = .ok (.aload_n 0, 1) := by decide +kernel
theorem dX8_readPromise_205 : decode cX8_readPromise 205 = .ok (.getfield 7, 3) := by decide +kernel
theorem dX8_readPromise_208 : decode cX8_readPromise 208 = .ok (.iconst 5, 1) := by decide +kernel
theorem dX8_readPromise_209 : decode cX8_readPromise 209 = .ok (.dup2, 1) := by decide +kernel
theorem dX8_readPromise_210 : decode cX8_readPromise 210 = .ok (.iaload, 1) := by decide +kernel
theorem dX8_readPromise_211 : decode cX8_readPromise 211 = .ok (.iconst 1, 1) := by decide +kernel
theorem dX8_readPromise_212 : decode cX8_readPromise 212 = .ok (.iadd, 1) := by decide +kernel
theorem dX8_readPromise_213 : decode cX8_readPromise 213 = .ok (.iastore, 1) := by decide +kernel
theorem dX8_readPromise_214 : decode cX8_readPromise 214 = .ok (.return_, 1) := by decide +kernel
theorem dX8_readLine_0 : decode cX8_readLine 0 = .ok (.aload_n 0, 1) := by decide +kernel
theorem dX8_readLine_1 : decode cX8_readLine 1 = .ok (.ldc 216, 2) := by decide +kernel
theorem dX8_readLine_3 : decode cX8_readLine 3 = .ok (.invokevirtual 189, 3) := by decide +kernel
theorem dX8_readLine_6 : decode cX8_readLine 6 = .ok (.ifCond .eq 39, 3) := by decide +kernel
theorem dX8_readLine_9 : decode cX8_readLine 9 = .ok (.iload_n 1, 1) := by decide +kernel
theorem dX8_readLine_10 : decode cX8_readLine 10 = .ok (.ifCond .ne 8, 3) := by decide +kernel
theorem dX8_readLine_13 : decode cX8_readLine 13 = .ok (.aload_n 0, 1) := by decide +kernel
theorem dX8_readLine_14 : decode cX8_readLine 14 = .ok (.iconst 5, 1) := by decide +kernel
theorem dX8_readLine_15 : decode cX8_readLine 15 = .ok (.invokevirtual 196, 3) := by decide +kernel
theorem dX8_readLine_18 : decode cX8_readLine 18 = .ok (.aload_n 0, 1) := by decide +kernel
theorem dX8_readLine_19 : decode cX8_readLine 19 = .ok (.getfield 173, 3) := by decide +kernel
theorem dX8_readLine_22 : decode cX8_readLine 22 = .ok (.ifCond .ne 7, 3) := by decide +kernel
theorem dX8_readLine_25 : decode cX8_readLine 25 = .ok (.aload_n 0, 1) := by decide +kernel
theorem dX8_readLine_26 : decode cX8_readLine 26 = .ok (.invokevirtual 193, 3) := by decide +kernel
theorem dX8_readLine_29 : decode cX8_readLine 29 = .ok (.aload_n 0, 1) := by decide +kernel
theorem dX8_readLine_30 : decode cX8_readLine 30 = .ok (.getfield 7, 3) := by decide +kernel
theorem dX8_readLine_33 : decode cX8_readLine 33 = .ok (.iconst 3, 1) := by decide +kernel
theorem dX8_readLine_34 : decode cX8_readLine 34 = .ok (.aload_n 0, 1) := by decide +kernel
theorem dX8_readLine_35 : decode cX8_readLine 35 = .ok (.iconst 2, 1) := by decide +kernel
theorem dX8_readLine_36 : decode cX8_readLine 36 = .ok (.bipush 6, 2) := by decide +kernel
theorem dX8_readLine_38 : decode cX8_readLine 38 = .ok (.invokevirtual 207, 3) := by decide +kernel
theorem dX8_readLine_41 : decode cX8_readLine 41 = .ok (.iastore, 1) := by decide +kernel
theorem dX8_readLine_42 : decode cX8_readLine 42 = .ok (.goto 89, 3) := by decide +kernel
theorem dX8_readLine_45 : decode cX8_readLine 45 = .ok (.aload_n 0, 1) := by decide +kernel
theorem dX8_readLine_46 : decode cX8_readLine 46 = .ok (.ldc 218, 2) := by decide +kernel
theorem dX8_readLine_48 : decode cX8_readLine 48 = .ok (.invokevirtual 211, 3) := by decide +kernel
theorem dX8_readLine_51 : decode cX8_readLine 51 = .ok (.ifCond .eq 43, 3) := by decide +kernel
theorem dX8_readLine_54 : decode cX8_readLine 54 = .ok (.aload_n 0, 1) := by decide +kernel
theorem dX8_readLine_55 : decode cX8_readLine 55 = .ok (.aload_n 0, 1) := by decide +kernel
theorem dX8_readLine_56 : decode cX8_readLine 56 = .ok (.getfield 7, 3) := by decide +kernel
theorem dX8_readLine_59 : decode cX8_readLine 59 = .ok (.iconst 3, 1) := by decide +kernel
theorem dX8_readLine_60 : decode cX8_readLine 60 = .ok (.iaload, 1) := by decide +kernel
theorem dX8_readLine_61 : decode cX8_readLine 61 = .ok (.iconst 0, 1) := by decide +kernel
theorem dX8_readLine_62 : decode cX8_readLine 62 = .ok (.invokevirtual 199, 3) := by decide +kernel
theorem dX8_readLine_65 : decode cX8_readLine 65 = .ok (.istore_n 2, 1) := by decide +kernel
theorem dX8_readLine_66 : decode cX8_readLine 66 = .ok (.aload_n 0, 1) := by decide +kernel
theorem dX8_readLine_67 : decode cX8_readLine 67 = .ok (.iconst 0, 1) := by decide +kernel
theorem dX8_readLine_68 : decode cX8_readLine 68 = .ok (.bipush 99, 2) := by decide +kernel
theorem dX8_readLine_70 : decode cX8_readLine 70 = .ok (.invokevirtual 207, 3) := by decide +kernel
theorem dX8_readLine_73 : decode cX8_readLine 73 = .ok (.istore_n 3, 1) := by decide +kernel
theorem dX8_readLine_74 : decode cX8_readLine 74 = .ok (.aload_n 0, 1) := by decide +kernel
theorem dX8_readLine_75 : decode cX8_readLine 75 = .ok (.getfield 173, 3) := by decide +kernel
theorem dX8_readLine_78 : decode cX8_readLine 78 = .ok (.ifCond .ne 13, 3) := by decide +kernel
theorem dX8_readLine_81 : decode cX8_readLine 81 = .ok (.aload_n 0, 1) := by decide +kernel
theorem dX8_readLine_82 : decode cX8_readLine 82 = .ok (.getfield 13, 3) := by decide +kernel
theorem dX8_readLine_85 : decode cX8_readLine 85 = .ok (.bipush 6, 2) := by decide +kernel
theorem dX8_readLine_87 : decode cX8_readLine 87 = .ok (.iload_n 2, 1) := by decide +kernel
theorem dX8_readLine_88 : decode cX8_readLine 88 = .ok (.iadd, 1) := by decide +kernel
theorem dX8_readLine_89 : decode cX8_readLine 89 = .ok (.iload_n 3, 1) := by decide +kernel
theorem dX8_readLine_90 : decode cX8_readLine 90 = .ok (.iastore, 1) := by decide +kernel
theorem dX8_readLine_91 : decode cX8_readLine 91 = .ok (.goto 40, 3) := by decide +kernel
theorem dX8_readLine_94 : decode cX8_readLine 94 = .ok (.aload_n 0, 1) := by decide +kernel
theorem dX8_readLine_95 : decode cX8_readLine 95 = .ok (.ldc 219, 2) := by decide +kernel
theorem dX8_readLine_97 : decode cX8_readLine 97 = .ok (.invokevirtual 189, 3) := by decide +kernel
theorem dX8_readLine_100 : decode cX8_readLine 100 = .ok (.ifCond .eq 10, 3) := by decide +kernel
theorem dX8_readLine_103 : decode cX8_readLine 103 = .ok (.aload_n 0, 1) := by decide +kernel
theorem dX8_readLine_104 : decode cX8_readLine 104 = .ok (.invokevirtual 221, 3) := by decide +kernel
theorem dX8_readLine_107 : decode cX8_readLine 107 = .ok (.goto 24, 3) := by decide +kernel
theorem dX8_readLine_110 : decode cX8_readLine 110 = .ok (.aload_n 0, 1) := by decide +kernel
theorem dX8_readLine_111 : decode cX8_readLine 111 = .ok (.ldc 224, 2) := by decide +kernel
theorem dX8_readLine_113 : decode cX8_readLine 113 = .ok (.invokevirtual 189, 3) := by decide +kernel
theorem dX8_readLine_116 : decode cX8_readLine 116 = .ok (.ifCond .eq 10, 3) := by decide +kernel
theorem dX8_readLine_119 : decode cX8_readLine 119 = .ok (.aload_n 0, 1) := by decide +kernel
theorem dX8_readLine_120 : decode cX8_readLine 120 = .ok (.invokevirtual 226, 3) := by decide +kernel
theorem dX8_readLine_123 : decode cX8_readLine 123 = .ok (.goto 8, 3) := by decide +kernel
theorem dX8_readLine_126 : decode cX8_readLine 126 = .ok (.aload_n 0, 1) := by decide +kernel
theorem dX8_readLine_127 : decode cX8_readLine 127 = .ok (.iconst 1, 1) := by decide +kernel
theorem dX8_readLine_128 : decode cX8_readLine 128 = .ok (.invokevirtual 196, 3) := by decide +kernel
theorem dX8_readLine_131 : decode cX8_readLine 131 = .ok (.aload_n 0, 1) := by decide +kernel
theorem dX8_readLine_132 : decode cX8_readLine 132 = .ok (.invokevirtual 229, 3) := by decide +kernel
theorem dX8_readLine_135 : decode cX8_readLine 135 = .ok (.return_, 1) := by decide +kernel
theorem dX8_town_0 : decode cX8_town 0 = .ok (.aload_n 0, 1) := by decide +kernel
theorem dX8_town_1 : decode cX8_town 1 = .ok (.iconst 0, 1) := by decide +kernel
theorem dX8_town_2 : decode cX8_town 2 = .ok (.putfield 128, 3) := by decide +kernel
theorem dX8_town_5 : decode cX8_town 5 = .ok (.iload_n 1, 1) := by decide +kernel
theorem dX8_town_6 : decode cX8_town 6 = .ok (.ifCond .lt 11, 3) := by decide +kernel
theorem dX8_town_9 : decode cX8_town 9 = .ok (.iload_n 1, 1) := by decide +kernel
theorem dX8_town_10 : decode cX8_town 10 = .ok (.aload_n 0, 1) := by decide +kernel
theorem dX8_town_11 : decode cX8_town 11 = .ok (.getfield 135, 3) := by decide +kernel
theorem dX8_town_14 : decode cX8_town 14 = .ok (.if_icmp .le 9, 3) := by decide +kernel
theorem dX8_town_17 : decode cX8_town 17 = .ok (.aload_n 0, 1) := by decide +kernel
theorem dX8_town_18 : decode cX8_town 18 = .ok (.iconst 1, 1) := by decide +kernel
theorem dX8_town_19 : decode cX8_town 19 = .ok (.invokevirtual 232, 3) := by decide +kernel
theorem dX8_town_22 : decode cX8_town 22 = .ok (.ireturn, 1) := by decide +kernel
theorem dX8_town_23 : decode cX8_town 23 = .ok (.aload_n 0, 1) := by decide +kernel
theorem dX8_town_24 : decode cX8_town 24 = .ok (.iconst 0, 1) := by decide +kernel
theorem dX8_town_25 : decode cX8_town 25 = .ok (.putfield 135, 3) := by decide +kernel
theorem dX8_town_28 : decode cX8_town 28 = .ok (.aload_n 0, 1) := by decide +kernel
theorem dX8_town_29 : decode cX8_town 29 = .ok (.iload_n 1, 1) := by decide +kernel
theorem dX8_town_30 : decode cX8_town 30 = .ok (.putfield 138, 3) := by decide +kernel
theorem dX8_town_33 : decode cX8_town 33 = .ok (.aload_n 0, 1) := by decide +kernel
theorem dX8_town_34 : decode cX8_town 34 = .ok (.iconst 0, 1) := by decide +kernel
theorem dX8_town_35 : decode cX8_town 35 = .ok (.putfield 141, 3) := by decide +kernel
theorem dX8_town_38 : decode cX8_town 38 = .ok (.aload_n 0, 1) := by decide +kernel
theorem dX8_town_39 : decode cX8_town 39 = .ok (.iconst 0, 1) := by decide +kernel
theorem dX8_town_40 : decode cX8_town 40 = .ok (.putfield 173, 3) := by decide +kernel
theorem dX8_town_43 : decode cX8_town 43 = .ok (.aload_n 0, 1) := by decide +kernel
theorem dX8_town_44 : decode cX8_town 44 = .ok (.iconst (-1), 1) := by decide +kernel
theorem dX8_town_45 : decode cX8_town 45 = .ok (.putfield 58, 3) := by decide +kernel
theorem dX8_town_48 : decode cX8_town 48 = .ok (.aload_n 0, 1) := by decide +kernel
theorem dX8_town_49 : decode cX8_town 49 = .ok (.getfield 7, 3) := by decide +kernel
theorem dX8_town_52 : decode cX8_town 52 = .ok (.iconst 3, 1) := by decide +kernel
theorem dX8_town_53 : decode cX8_town 53 = .ok (.iconst 2, 1) := by decide +kernel
theorem dX8_town_54 : decode cX8_town 54 = .ok (.iastore, 1) := by decide +kernel
theorem dX8_town_55 : decode cX8_town 55 = .ok (.aload_n 0, 1) := by decide +kernel
theorem dX8_town_56 : decode cX8_town 56 = .ok (.getfield 7, 3) := by decide +kernel
theorem dX8_town_59 : decode cX8_town 59 = .ok (.iconst 4, 1) := by decide +kernel
theorem dX8_town_60 : decode cX8_town 60 = .ok (.iconst 0, 1) := by decide +kernel
theorem dX8_town_61 : decode cX8_town 61 = .ok (.iastore, 1) := by decide +kernel
theorem dX8_town_62 : decode cX8_town 62 = .ok (.aload_n 0, 1) := by decide +kernel
theorem dX8_town_63 : decode cX8_town 63 = .ok (.getfield 7, 3) := by decide +kernel
theorem dX8_town_66 : decode cX8_town 66 = .ok (.iconst 5, 1) := by decide +kernel
theorem dX8_town_67 : decode cX8_town 67 = .ok (.iconst 0, 1) := by decide +kernel
theorem dX8_town_68 : decode cX8_town 68 = .ok (.iastore, 1) := by decide +kernel
theorem dX8_town_69 : decode cX8_town 69 = .ok (.iconst 0, 1) := by decide +kernel
theorem dX8_town_70 : decode cX8_town 70 = .ok (.istore_n 2, 1) := by decide +kernel
theorem dX8_town_71 : decode cX8_town 71 = .ok (.iload_n 2, 1) := by decide +kernel
theorem dX8_town_72 : decode cX8_town 72 = .ok (.bipush 6, 2) := by decide +kernel
theorem dX8_town_74 : decode cX8_town 74 = .ok (.if_icmp .ge 19, 3) := by decide +kernel
theorem dX8_town_77 : decode cX8_town 77 = .ok (.aload_n 0, 1) := by decide +kernel
theorem dX8_town_78 : decode cX8_town 78 = .ok (.getfield 13, 3) := by decide +kernel
theorem dX8_town_81 : decode cX8_town 81 = .ok (.bipush 6, 2) := by decide +kernel
theorem dX8_town_83 : decode cX8_town 83 = .ok (.iload_n 2, 1) := by decide +kernel
theorem dX8_town_84 : decode cX8_town 84 = .ok (.iadd, 1) := by decide +kernel
theorem dX8_town_85 : decode cX8_town 85 = .ok (.iconst 1, 1) := by decide +kernel
theorem dX8_town_86 : decode cX8_town 86 = .ok (.iastore, 1) := by decide +kernel
theorem dX8_town_87 : decode cX8_town 87 = .ok (.iinc 2 1, 3) := by decide +kernel
theorem dX8_town_90 : decode cX8_town 90 = .ok (.goto (-19), 3) := by decide +kernel
theorem dX8_town_93 : decode cX8_town 93 = .ok (.aload_n 0, 1) := by decide +kernel
theorem dX8_town_94 : decode cX8_town 94 = .ok (.invokevirtual 193, 3) := by decide +kernel
theorem dX8_town_97 : decode cX8_town 97 = .ok (.iconst 1, 1) := by decide +kernel
theorem dX8_town_98 : decode cX8_town 98 = .ok (.istore_n 2, 1) := by decide +kernel
theorem dX8_town_99 : decode cX8_town 99 = .ok (.aload_n 0, 1) := by decide +kernel
theorem dX8_town_100 : decode cX8_town 100 = .ok (.getfield 173, 3) := by decide +kernel
theorem dX8_town_103 : decode cX8_town 103 = .ok (.ifCond .ne 20, 3) := by decide +kernel
theorem dX8_town_106 : decode cX8_town 106 = .ok (.aload_n 0, 1) := by decide +kernel
theorem dX8_town_107 : decode cX8_town 107 = .ok (.getfield 151, 3) := by decide +kernel
theorem dX8_town_110 : decode cX8_town 110 = .ok (.ifCond .eq 13, 3) := by decide +kernel
theorem dX8_town_113 : decode cX8_town 113 = .ok (.aload_n 0, 1) := by decide +kernel
theorem dX8_town_114 : decode cX8_town 114 = .ok (.iload_n 2, 1) := by decide +kernel
theorem dX8_town_115 : decode cX8_town 115 = .ok (.invokevirtual 235, 3) := by decide +kernel
theorem dX8_town_118 : decode cX8_town 118 = .ok (.iconst 0, 1) := by decide +kernel
theorem dX8_town_119 : decode cX8_town 119 = .ok (.istore_n 2, 1) := by decide +kernel
theorem dX8_town_120 : decode cX8_town 120 = .ok (.goto (-21), 3) := by decide +kernel
theorem dX8_town_123 : decode cX8_town 123 = .ok (.aload_n 0, 1) := by decide +kernel
theorem dX8_town_124 : decode cX8_town 124 = .ok (.getfield 173, 3) := by decide +kernel
theorem dX8_town_127 : decode cX8_town 127 = .ok (.ifCond .eq 26, 3) := by decide +kernel
theorem dX8_town_130 : decode cX8_town 130 = .ok (.aload_n 0, 1) := by decide +kernel
theorem dX8_town_131 : decode cX8_town 131 = .ok (.aload_n 0, 1) := by decide +kernel
theorem dX8_town_132 : decode cX8_town 132 = .ok (.getfield 176, 3) := by decide +kernel
theorem dX8_town_135 : decode cX8_town 135 = .ok (.putfield 58, 3) := by decide +kernel
theorem dX8_town_138 : decode cX8_town 138 = .ok (.aload_n 0, 1) := by decide +kernel
theorem dX8_town_139 : decode cX8_town 139 = .ok (.getfield 52, 3) := by decide +kernel
theorem dX8_town_142 : decode cX8_town 142 = .ok (.iconst 0, 1) := by decide +kernel
theorem dX8_town_143 : decode cX8_town 143 = .ok (.dup2, 1) := by decide +kernel
theorem dX8_town_144 : decode cX8_town 144 = .ok (.iaload, 1) := by decide +kernel
theorem dX8_town_145 : decode cX8_town 145 = .ok (.iconst 1, 1) := by decide +kernel
theorem dX8_town_146 : decode cX8_town 146 = .ok (.iadd, 1) := by decide +kernel
theorem dX8_town_147 : decode cX8_town 147 = .ok (.iastore, 1) := by decide +kernel
theorem dX8_town_148 : decode cX8_town 148 = .ok (.aload_n 0, 1) := by decide +kernel
theorem dX8_town_149 : decode cX8_town 149 = .ok (.getfield 173, 3) := by decide +kernel
theorem dX8_town_152 : decode cX8_town 152 = .ok (.ireturn, 1) := by decide +kernel
theorem dX8_town_153 : decode cX8_town 153 = .ok (.aload_n 0, 1) := by decide +kernel
theorem dX8_town_154 : decode cX8_town 154 = .ok (.invokevirtual 239, 3) := by decide +kernel
theorem dX8_town_157 : decode cX8_town 157 = .ok (.iconst 0, 1) := by decide +kernel
theorem dX8_town_158 : decode cX8_town 158 = .ok (.ireturn, 1) := by decide +kernel
theorem dX8_take_0 : decode cX8_take 0 = .ok (.iconst 0, 1) := by decide +kernel
theorem dX8_take_1 : decode cX8_take 1 = .ok (.istore_n 1, 1) := by decide +kernel
theorem dX8_take_2 : decode cX8_take 2 = .ok (.iload_n 1, 1) := by decide +kernel
theorem dX8_take_3 : decode cX8_take 3 = .ok (.iconst 3, 1) := by decide +kernel
theorem dX8_take_4 : decode cX8_take 4 = .ok (.if_icmp .ge 23, 3) := by decide +kernel
theorem dX8_take_7 : decode cX8_take 7 = .ok (.aload_n 0, 1) := by decide +kernel
theorem dX8_take_8 : decode cX8_take 8 = .ok (.getfield 7, 3) := by decide +kernel
theorem dX8_take_11 : decode cX8_take 11 = .ok (.iload_n 1, 1) := by decide +kernel
theorem dX8_take_12 : decode cX8_take 12 = .ok (.aload_n 0, 1) := by decide +kernel
theorem dX8_take_13 : decode cX8_take 13 = .ok (.getfield 7, 3) := by decide +kernel
theorem dX8_take_16 : decode cX8_take 16 = .ok (.iconst 3, 1) := by decide +kernel
theorem dX8_take_17 : decode cX8_take 17 = .ok (.iload_n 1, 1) := by decide +kernel
theorem dX8_take_18 : decode cX8_take 18 = .ok (.iadd, 1) := by decide +kernel
theorem dX8_take_19 : decode cX8_take 19 = .ok (.iaload, 1) := by decide +kernel
theorem dX8_take_20 : decode cX8_take 20 = .ok (.iastore, 1) := by decide +kernel
theorem dX8_take_21 : decode cX8_take 21 = .ok (.iinc 1 1, 3) := by decide +kernel
theorem dX8_take_24 : decode cX8_take 24 = .ok (.goto (-22), 3) := by decide +kernel
theorem dX8_take_27 : decode cX8_take 27 = .ok (.iconst 0, 1) := by decide +kernel
theorem dX8_take_28 : decode cX8_take 28 = .ok (.istore_n 1, 1) := by decide +kernel
theorem dX8_take_29 : decode cX8_take 29 = .ok (.iload_n 1, 1) := by decide +kernel
theorem dX8_take_30 : decode cX8_take 30 = .ok (.bipush 6, 2) := by decide +kernel
theorem dX8_take_32 : decode cX8_take 32 = .ok (.if_icmp .ge 24, 3) := by decide +kernel
theorem dX8_take_35 : decode cX8_take 35 = .ok (.aload_n 0, 1) := by decide +kernel
theorem dX8_take_36 : decode cX8_take 36 = .ok (.getfield 13, 3) := by decide +kernel
theorem dX8_take_39 : decode cX8_take 39 = .ok (.iload_n 1, 1) := by decide +kernel
theorem dX8_take_40 : decode cX8_take 40 = .ok (.aload_n 0, 1) := by decide +kernel
theorem dX8_take_41 : decode cX8_take 41 = .ok (.getfield 13, 3) := by decide +kernel
theorem dX8_take_44 : decode cX8_take 44 = .ok (.bipush 6, 2) := by decide +kernel
theorem dX8_take_46 : decode cX8_take 46 = .ok (.iload_n 1, 1) := by decide +kernel
theorem dX8_take_47 : decode cX8_take 47 = .ok (.iadd, 1) := by decide +kernel
theorem dX8_take_48 : decode cX8_take 48 = .ok (.iaload, 1) := by decide +kernel
theorem dX8_take_49 : decode cX8_take 49 = .ok (.iastore, 1) := by decide +kernel
theorem dX8_take_50 : decode cX8_take 50 = .ok (.iinc 1 1, 3) := by decide +kernel
theorem dX8_take_53 : decode cX8_take 53 = .ok (.goto (-24), 3) := by decide +kernel
theorem dX8_take_56 : decode cX8_take 56 = .ok (.iconst 0, 1) := by decide +kernel
theorem dX8_take_57 : decode cX8_take 57 = .ok (.istore_n 1, 1) := by decide +kernel
theorem dX8_take_58 : decode cX8_take 58 = .ok (.iload_n 1, 1) := by decide +kernel
theorem dX8_take_59 : decode cX8_take 59 = .ok (.bipush 12, 2) := by decide +kernel
theorem dX8_take_61 : decode cX8_take 61 = .ok (.if_icmp .ge 54, 3) := by decide +kernel
theorem dX8_take_64 : decode cX8_take 64 = .ok (.aload_n 0, 1) := by decide +kernel
theorem dX8_take_65 : decode cX8_take 65 = .ok (.getfield 16, 3) := by decide +kernel
theorem dX8_take_68 : decode cX8_take 68 = .ok (.iload_n 1, 1) := by decide +kernel
theorem dX8_take_69 : decode cX8_take 69 = .ok (.aload_n 0, 1) := by decide +kernel
theorem dX8_take_70 : decode cX8_take 70 = .ok (.getfield 16, 3) := by decide +kernel
theorem dX8_take_73 : decode cX8_take 73 = .ok (.bipush 12, 2) := by decide +kernel
theorem dX8_take_75 : decode cX8_take 75 = .ok (.iload_n 1, 1) := by decide +kernel
theorem dX8_take_76 : decode cX8_take 76 = .ok (.iadd, 1) := by decide +kernel
theorem dX8_take_77 : decode cX8_take 77 = .ok (.iaload, 1) := by decide +kernel
theorem dX8_take_78 : decode cX8_take 78 = .ok (.iastore, 1) := by decide +kernel
theorem dX8_take_79 : decode cX8_take 79 = .ok (.aload_n 0, 1) := by decide +kernel
theorem dX8_take_80 : decode cX8_take 80 = .ok (.getfield 19, 3) := by decide +kernel
theorem dX8_take_83 : decode cX8_take 83 = .ok (.iload_n 1, 1) := by decide +kernel
theorem dX8_take_84 : decode cX8_take 84 = .ok (.aload_n 0, 1) := by decide +kernel
theorem dX8_take_85 : decode cX8_take 85 = .ok (.getfield 19, 3) := by decide +kernel
theorem dX8_take_88 : decode cX8_take 88 = .ok (.bipush 12, 2) := by decide +kernel
theorem dX8_take_90 : decode cX8_take 90 = .ok (.iload_n 1, 1) := by decide +kernel
theorem dX8_take_91 : decode cX8_take 91 = .ok (.iadd, 1) := by decide +kernel
theorem dX8_take_92 : decode cX8_take 92 = .ok (.iaload, 1) := by decide +kernel
theorem dX8_take_93 : decode cX8_take 93 = .ok (.iastore, 1) := by decide +kernel
theorem dX8_take_94 : decode cX8_take 94 = .ok (.aload_n 0, 1) := by decide +kernel
theorem dX8_take_95 : decode cX8_take 95 = .ok (.getfield 22, 3) := by decide +kernel
theorem dX8_take_98 : decode cX8_take 98 = .ok (.iload_n 1, 1) := by decide +kernel
theorem dX8_take_99 : decode cX8_take 99 = .ok (.aload_n 0, 1) := by decide +kernel
theorem dX8_take_100 : decode cX8_take 100 = .ok (.getfield 22, 3) := by decide +kernel
theorem dX8_take_103 : decode cX8_take 103 = .ok (.bipush 12, 2) := by decide +kernel
theorem dX8_take_105 : decode cX8_take 105 = .ok (.iload_n 1, 1) := by decide +kernel
theorem dX8_take_106 : decode cX8_take 106 = .ok (.iadd, 1) := by decide +kernel
theorem dX8_take_107 : decode cX8_take 107 = .ok (.iaload, 1) := by decide +kernel
theorem dX8_take_108 : decode cX8_take 108 = .ok (.iastore, 1) := by decide +kernel
theorem dX8_take_109 : decode cX8_take 109 = .ok (.iinc 1 1, 3) := by decide +kernel
theorem dX8_take_112 : decode cX8_take 112 = .ok (.goto (-54), 3) := by decide +kernel
theorem dX8_take_115 : decode cX8_take 115 = .ok (.iconst 0, 1) := by decide +kernel
theorem dX8_take_116 : decode cX8_take 116 = .ok (.istore_n 1, 1) := by decide +kernel
theorem dX8_take_117 : decode cX8_take 117 = .ok (.iload_n 1, 1) := by decide +kernel
theorem dX8_take_118 : decode cX8_take 118 = .ok (.bipush 12, 2) := by decide +kernel
theorem dX8_take_120 : decode cX8_take 120 = .ok (.if_icmp .ge 84, 3) := by decide +kernel
theorem dX8_take_123 : decode cX8_take 123 = .ok (.aload_n 0, 1) := by decide +kernel
theorem dX8_take_124 : decode cX8_take 124 = .ok (.getfield 25, 3) := by decide +kernel
theorem dX8_take_127 : decode cX8_take 127 = .ok (.iload_n 1, 1) := by decide +kernel
theorem dX8_take_128 : decode cX8_take 128 = .ok (.aload_n 0, 1) := by decide +kernel
theorem dX8_take_129 : decode cX8_take 129 = .ok (.getfield 25, 3) := by decide +kernel
theorem dX8_take_132 : decode cX8_take 132 = .ok (.bipush 12, 2) := by decide +kernel
theorem dX8_take_134 : decode cX8_take 134 = .ok (.iload_n 1, 1) := by decide +kernel
theorem dX8_take_135 : decode cX8_take 135 = .ok (.iadd, 1) := by decide +kernel
theorem dX8_take_136 : decode cX8_take 136 = .ok (.iaload, 1) := by decide +kernel
theorem dX8_take_137 : decode cX8_take 137 = .ok (.iastore, 1) := by decide +kernel
theorem dX8_take_138 : decode cX8_take 138 = .ok (.aload_n 0, 1) := by decide +kernel
theorem dX8_take_139 : decode cX8_take 139 = .ok (.getfield 28, 3) := by decide +kernel
theorem dX8_take_142 : decode cX8_take 142 = .ok (.iload_n 1, 1) := by decide +kernel
theorem dX8_take_143 : decode cX8_take 143 = .ok (.aload_n 0, 1) := by decide +kernel
theorem dX8_take_144 : decode cX8_take 144 = .ok (.getfield 28, 3) := by decide +kernel
theorem dX8_take_147 : decode cX8_take 147 = .ok (.bipush 12, 2) := by decide +kernel
theorem dX8_take_149 : decode cX8_take 149 = .ok (.iload_n 1, 1) := by decide +kernel
theorem dX8_take_150 : decode cX8_take 150 = .ok (.iadd, 1) := by decide +kernel
theorem dX8_take_151 : decode cX8_take 151 = .ok (.iaload, 1) := by decide +kernel
theorem dX8_take_152 : decode cX8_take 152 = .ok (.iastore, 1) := by decide +kernel
theorem dX8_take_153 : decode cX8_take 153 = .ok (.aload_n 0, 1) := by decide +kernel
theorem dX8_take_154 : decode cX8_take 154 = .ok (.getfield 31, 3) := by decide +kernel
theorem dX8_take_157 : decode cX8_take 157 = .ok (.iload_n 1, 1) := by decide +kernel
theorem dX8_take_158 : decode cX8_take 158 = .ok (.aload_n 0, 1) := by decide +kernel
theorem dX8_take_159 : decode cX8_take 159 = .ok (.getfield 31, 3) := by decide +kernel
theorem dX8_take_162 : decode cX8_take 162 = .ok (.bipush 12, 2) := by decide +kernel
theorem dX8_take_164 : decode cX8_take 164 = .ok (.iload_n 1, 1) := by decide +kernel
theorem dX8_take_165 : decode cX8_take 165 = .ok (.iadd, 1) := by decide +kernel
theorem dX8_take_166 : decode cX8_take 166 = .ok (.iaload, 1) := by decide +kernel
theorem dX8_take_167 : decode cX8_take 167 = .ok (.iastore, 1) := by decide +kernel
theorem dX8_take_168 : decode cX8_take 168 = .ok (.aload_n 0, 1) := by decide +kernel
theorem dX8_take_169 : decode cX8_take 169 = .ok (.getfield 34, 3) := by decide +kernel
theorem dX8_take_172 : decode cX8_take 172 = .ok (.iload_n 1, 1) := by decide +kernel
theorem dX8_take_173 : decode cX8_take 173 = .ok (.aload_n 0, 1) := by decide +kernel
theorem dX8_take_174 : decode cX8_take 174 = .ok (.getfield 34, 3) := by decide +kernel
theorem dX8_take_177 : decode cX8_take 177 = .ok (.bipush 12, 2) := by decide +kernel
theorem dX8_take_179 : decode cX8_take 179 = .ok (.iload_n 1, 1) := by decide +kernel
theorem dX8_take_180 : decode cX8_take 180 = .ok (.iadd, 1) := by decide +kernel
theorem dX8_take_181 : decode cX8_take 181 = .ok (.iaload, 1) := by decide +kernel
theorem dX8_take_182 : decode cX8_take 182 = .ok (.iastore, 1) := by decide +kernel
theorem dX8_take_183 : decode cX8_take 183 = .ok (.aload_n 0, 1) := by decide +kernel
theorem dX8_take_184 : decode cX8_take 184 = .ok (.getfield 37, 3) := by decide +kernel
theorem dX8_take_187 : decode cX8_take 187 = .ok (.iload_n 1, 1) := by decide +kernel
theorem dX8_take_188 : decode cX8_take 188 = .ok (.aload_n 0, 1) := by decide +kernel
theorem dX8_take_189 : decode cX8_take 189 = .ok (.getfield 37, 3) := by decide +kernel
theorem dX8_take_192 : decode cX8_take 192 = .ok (.bipush 12, 2) := by decide +kernel
theorem dX8_take_194 : decode cX8_take 194 = .ok (.iload_n 1, 1) := by decide +kernel
theorem dX8_take_195 : decode cX8_take 195 = .ok (.iadd, 1) := by decide +kernel
theorem dX8_take_196 : decode cX8_take 196 = .ok (.iaload, 1) := by decide +kernel
theorem dX8_take_197 : decode cX8_take 197 = .ok (.iastore, 1) := by decide +kernel
theorem dX8_take_198 : decode cX8_take 198 = .ok (.iinc 1 1, 3) := by decide +kernel
theorem dX8_take_201 : decode cX8_take 201 = .ok (.goto (-84), 3) := by decide +kernel
theorem dX8_take_204 : decode cX8_take 204 = .ok (.aload_n 0, 1) := by decide +kernel
theorem dX8_take_205 : decode cX8_take 205 = .ok (.iconst 0, 1) := by decide +kernel
theorem dX8_take_206 : decode cX8_take 206 = .ok (.putfield 242, 3) := by decide +kernel
theorem dX8_take_209 : decode cX8_take 209 = .ok (.aload_n 0, 1) := by decide +kernel
theorem dX8_take_210 : decode cX8_take 210 = .ok (.iconst 0, 1) := by decide +kernel
theorem dX8_take_211 : decode cX8_take 211 = .ok (.putfield 245, 3) := by decide +kernel
theorem dX8_take_214 : decode cX8_take 214 = .ok (.aload_n 0, 1) := by decide +kernel
theorem dX8_take_215 : decode cX8_take 215 = .ok (.iconst 0, 1) := by decide +kernel
theorem dX8_take_216 : decode cX8_take 216 = .ok (.putfield 249, 3) := by decide +kernel
theorem dX8_take_219 : decode cX8_take 219 = .ok (.aload_n 0, 1) := by decide +kernel
theorem dX8_take_220 : decode cX8_take 220 = .ok (.iconst 0, 1) := by decide +kernel
theorem dX8_take_221 : decode cX8_take 221 = .ok (.invokevirtual 124, 3) := by decide +kernel
theorem dX8_take_224 : decode cX8_take 224 = .ok (.return_, 1) := by decide +kernel
theorem dX8_fault_0 : decode cX8_fault 0 = .ok (.aload_n 0, 1) := by decide +kernel
theorem dX8_fault_1 : decode cX8_fault 1 = .ok (.iconst 0, 1) := by decide +kernel
theorem dX8_fault_2 : decode cX8_fault 2 = .ok (.putfield 128, 3) := by decide +kernel
theorem dX8_fault_5 : decode cX8_fault 5 = .ok (.aload_n 0, 1) := by decide +kernel
theorem dX8_fault_6 : decode cX8_fault 6 = .ok (.getfield 58, 3) := by decide +kernel
theorem dX8_fault_9 : decode cX8_fault 9 = .ok (.ireturn, 1) := by decide +kernel
theorem dX8_count_0 : decode cX8_count 0 = .ok (.aload_n 0, 1) := by decide +kernel
theorem dX8_count_1 : decode cX8_count 1 = .ok (.iconst 0, 1) := by decide +kernel
theorem dX8_count_2 : decode cX8_count 2 = .ok (.putfield 128, 3) := by decide +kernel
theorem dX8_count_5 : decode cX8_count 5 = .ok (.iload_n 1, 1) := by decide +kernel
theorem dX8_count_6 : decode cX8_count 6 = .ok (.iconst 0, 1) := by decide +kernel
theorem dX8_count_7 : decode cX8_count 7 = .ok (.iconst 2, 1) := by decide +kernel
theorem dX8_count_8 : decode cX8_count 8 = .ok (.invokestatic 131, 3) := by decide +kernel
theorem dX8_count_11 : decode cX8_count 11 = .ok (.ifCond .eq 10, 3) := by decide +kernel
theorem dX8_count_14 : decode cX8_count 14 = .ok (.aload_n 0, 1) := by decide +kernel
theorem dX8_count_15 : decode cX8_count 15 = .ok (.getfield 7, 3) := by decide +kernel
theorem dX8_count_18 : decode cX8_count 18 = .ok (.iload_n 1, 1) := by decide +kernel
theorem dX8_count_19 : decode cX8_count 19 = .ok (.iaload, 1) := by decide +kernel
theorem dX8_count_20 : decode cX8_count 20 = .ok (.ireturn, 1) := by decide +kernel
theorem dX8_count_21 : decode cX8_count 21 = .ok (.iload_n 1, 1) := by decide +kernel
theorem dX8_count_22 : decode cX8_count 22 = .ok (.tableswitch 72 3 8 #[38, 43, 50, 57, 62, 62], 38) := by decide +kernel
theorem dX8_count_60 : decode cX8_count 60 = .ok (.aload_n 0, 1) := by decide +kernel
theorem dX8_count_61 : decode cX8_count 61 = .ok (.getfield 242, 3) := by decide +kernel
theorem dX8_count_64 : decode cX8_count 64 = .ok (.ireturn, 1) := by decide +kernel
theorem dX8_count_65 : decode cX8_count 65 = .ok (.aload_n 0, 1) := by decide +kernel
theorem dX8_count_66 : decode cX8_count 66 = .ok (.getfield 62, 3) := by decide +kernel
theorem dX8_count_69 : decode cX8_count 69 = .ok (.iconst 0, 1) := by decide +kernel
theorem dX8_count_70 : decode cX8_count 70 = .ok (.iaload, 1) := by decide +kernel
theorem dX8_count_71 : decode cX8_count 71 = .ok (.ireturn, 1) := by decide +kernel
theorem dX8_count_72 : decode cX8_count 72 = .ok (.aload_n 0, 1) := by decide +kernel
theorem dX8_count_73 : decode cX8_count 73 = .ok (.getfield 65, 3) := by decide +kernel
theorem dX8_count_76 : decode cX8_count 76 = .ok (.iconst 0, 1) := by decide +kernel
theorem dX8_count_77 : decode cX8_count 77 = .ok (.iaload, 1) := by decide +kernel
theorem dX8_count_78 : decode cX8_count 78 = .ok (.ireturn, 1) := by decide +kernel
theorem dX8_count_79 : decode cX8_count 79 = .ok (.aload_n 0, 1) := by decide +kernel
theorem dX8_count_80 : decode cX8_count 80 = .ok (.getfield 135, 3) := by decide +kernel
theorem dX8_count_83 : decode cX8_count 83 = .ok (.ireturn, 1) := by decide +kernel
theorem dX8_count_84 : decode cX8_count 84 = .ok (.aload_n 0, 1) := by decide +kernel
theorem dX8_count_85 : decode cX8_count 85 = .ok (.getfield 52, 3) := by decide +kernel
theorem dX8_count_88 : decode cX8_count 88 = .ok (.iload_n 1, 1) := by decide +kernel
theorem dX8_count_89 : decode cX8_count 89 = .ok (.bipush 7, 2) := by decide +kernel
theorem dX8_count_91 : decode cX8_count 91 = .ok (.isub, 1) := by decide +kernel
theorem dX8_count_92 : decode cX8_count 92 = .ok (.iaload, 1) := by decide +kernel
theorem dX8_count_93 : decode cX8_count 93 = .ok (.ireturn, 1) := by decide +kernel
theorem dX8_count_94 : decode cX8_count 94 = .ok (.aload_n 0, 1) := by decide +kernel
theorem dX8_count_95 : decode cX8_count 95 = .ok (.iconst 1, 1) := by decide +kernel
theorem dX8_count_96 : decode cX8_count 96 = .ok (.invokevirtual 232, 3) := by decide +kernel
theorem dX8_count_99 : decode cX8_count 99 = .ok (.ireturn, 1) := by decide +kernel
theorem dX8_price_0 : decode cX8_price 0 = .ok (.aload_n 0, 1) := by decide +kernel
theorem dX8_price_1 : decode cX8_price 1 = .ok (.iconst 0, 1) := by decide +kernel
theorem dX8_price_2 : decode cX8_price 2 = .ok (.putfield 128, 3) := by decide +kernel
theorem dX8_price_5 : decode cX8_price 5 = .ok (.aload_n 0, 1) := by decide +kernel
theorem dX8_price_6 : decode cX8_price 6 = .ok (.iload_n 1, 1) := by decide +kernel
theorem dX8_price_7 : decode cX8_price 7 = .ok (.invokevirtual 252, 3) := by decide +kernel
theorem dX8_price_10 : decode cX8_price 10 = .ok (.ifCond .eq 12, 3) := by decide +kernel
theorem dX8_price_13 : decode cX8_price 13 = .ok (.aload_n 0, 1) := by decide +kernel
theorem dX8_price_14 : decode cX8_price 14 = .ok (.getfield 13, 3) := by decide +kernel
theorem dX8_price_17 : decode cX8_price 17 = .ok (.iload_n 1, 1) := by decide +kernel
theorem dX8_price_18 : decode cX8_price 18 = .ok (.iaload, 1) := by decide +kernel
theorem dX8_price_19 : decode cX8_price 19 = .ok (.goto 8, 3) := by decide +kernel
theorem dX8_price_22 : decode cX8_price 22 = .ok (.aload_n 0, 1) := by decide +kernel
theorem dX8_price_23 : decode cX8_price 23 = .ok (.iconst 1, 1) := by decide +kernel
theorem dX8_price_24 : decode cX8_price 24 = .ok (.invokevirtual 232, 3) := by decide +kernel
theorem dX8_price_27 : decode cX8_price 27 = .ok (.ireturn, 1) := by decide +kernel
theorem dX8_meeting_0 : decode cX8_meeting 0 = .ok (.aload_n 0, 1) := by decide +kernel
theorem dX8_meeting_1 : decode cX8_meeting 1 = .ok (.iconst 0, 1) := by decide +kernel
theorem dX8_meeting_2 : decode cX8_meeting 2 = .ok (.putfield 128, 3) := by decide +kernel
theorem dX8_meeting_5 : decode cX8_meeting 5 = .ok (.aload_n 0, 1) := by decide +kernel
theorem dX8_meeting_6 : decode cX8_meeting 6 = .ok (.iload_n 1, 1) := by decide +kernel
theorem dX8_meeting_7 : decode cX8_meeting 7 = .ok (.invokevirtual 255, 3) := by decide +kernel
theorem dX8_meeting_10 : decode cX8_meeting 10 = .ok (.ifCond .ne 9, 3) := by decide +kernel
theorem dX8_meeting_13 : decode cX8_meeting 13 = .ok (.aload_n 0, 1) := by decide +kernel
theorem dX8_meeting_14 : decode cX8_meeting 14 = .ok (.iconst 1, 1) := by decide +kernel
theorem dX8_meeting_15 : decode cX8_meeting 15 = .ok (.invokevirtual 232, 3) := by decide +kernel
theorem dX8_meeting_18 : decode cX8_meeting 18 = .ok (.ireturn, 1) := by decide +kernel
theorem dX8_meeting_19 : decode cX8_meeting 19 = .ok (.iload_n 2, 1) := by decide +kernel
theorem dX8_meeting_20 : decode cX8_meeting 20 = .ok (.ifCond .ne 12, 3) := by decide +kernel
theorem dX8_meeting_23 : decode cX8_meeting 23 = .ok (.aload_n 0, 1) := by decide +kernel
theorem dX8_meeting_24 : decode cX8_meeting 24 = .ok (.getfield 16, 3) := by decide +kernel
theorem dX8_meeting_27 : decode cX8_meeting 27 = .ok (.iload_n 1, 1) := by decide +kernel
theorem dX8_meeting_28 : decode cX8_meeting 28 = .ok (.iaload, 1) := by decide +kernel
theorem dX8_meeting_29 : decode cX8_meeting 29 = .ok (.goto 36, 3) := by decide +kernel
theorem dX8_meeting_32 : decode cX8_meeting 32 = .ok (.iload_n 2, 1) := by decide +kernel
theorem dX8_meeting_33 : decode cX8_meeting 33 = .ok (.iconst 1, 1) := by decide +kernel
theorem dX8_meeting_34 : decode cX8_meeting 34 = .ok (.if_icmp .ne 12, 3) := by decide +kernel
theorem dX8_meeting_37 : decode cX8_meeting 37 = .ok (.aload_n 0, 1) := by decide +kernel
theorem dX8_meeting_38 : decode cX8_meeting 38 = .ok (.getfield 19, 3) := by decide +kernel
theorem dX8_meeting_41 : decode cX8_meeting 41 = .ok (.iload_n 1, 1) := by decide +kernel
theorem dX8_meeting_42 : decode cX8_meeting 42 = .ok (.iaload, 1) := by decide +kernel
theorem dX8_meeting_43 : decode cX8_meeting 43 = .ok (.goto 22, 3) := by decide +kernel
theorem dX8_meeting_46 : decode cX8_meeting 46 = .ok (.iload_n 2, 1) := by decide +kernel
theorem dX8_meeting_47 : decode cX8_meeting 47 = .ok (.iconst 2, 1) := by decide +kernel
theorem dX8_meeting_48 : decode cX8_meeting 48 = .ok (.if_icmp .ne 12, 3) := by decide +kernel
theorem dX8_meeting_51 : decode cX8_meeting 51 = .ok (.aload_n 0, 1) := by decide +kernel
theorem dX8_meeting_52 : decode cX8_meeting 52 = .ok (.getfield 22, 3) := by decide +kernel
theorem dX8_meeting_55 : decode cX8_meeting 55 = .ok (.iload_n 1, 1) := by decide +kernel
theorem dX8_meeting_56 : decode cX8_meeting 56 = .ok (.iaload, 1) := by decide +kernel
theorem dX8_meeting_57 : decode cX8_meeting 57 = .ok (.goto 8, 3) := by decide +kernel
theorem dX8_meeting_60 : decode cX8_meeting 60 = .ok (.aload_n 0, 1) := by decide +kernel
theorem dX8_meeting_61 : decode cX8_meeting 61 = .ok (.iconst 1, 1) := by decide +kernel
theorem dX8_meeting_62 : decode cX8_meeting 62 = .ok (.invokevirtual 232, 3) := by decide +kernel
theorem dX8_meeting_65 : decode cX8_meeting 65 = .ok (.ireturn, 1) := by decide +kernel
theorem dX8_begin_0 : decode cX8_begin 0 = .ok (.aload_n 0, 1) := by decide +kernel
theorem dX8_begin_1 : decode cX8_begin 1 = .ok (.getfield 62, 3) := by decide +kernel
theorem dX8_begin_4 : decode cX8_begin 4 = .ok (.iload_n 1, 1) := by decide +kernel
theorem dX8_begin_5 : decode cX8_begin 5 = .ok (.iconst 0, 1) := by decide +kernel
theorem dX8_begin_6 : decode cX8_begin 6 = .ok (.iastore, 1) := by decide +kernel
theorem dX8_begin_7 : decode cX8_begin 7 = .ok (.aload_n 0, 1) := by decide +kernel
theorem dX8_begin_8 : decode cX8_begin 8 = .ok (.getfield 65, 3) := by decide +kernel
theorem dX8_begin_11 : decode cX8_begin 11 = .ok (.iload_n 1, 1) := by decide +kernel
theorem dX8_begin_12 : decode cX8_begin 12 = .ok (.iconst 0, 1) := by decide +kernel
theorem dX8_begin_13 : decode cX8_begin 13 = .ok (.iastore, 1) := by decide +kernel
theorem dX8_begin_14 : decode cX8_begin 14 = .ok (.bipush 12, 2) := by decide +kernel
theorem dX8_begin_16 : decode cX8_begin 16 = .ok (.iload_n 1, 1) := by decide +kernel
theorem dX8_begin_17 : decode cX8_begin 17 = .ok (.imul, 1) := by decide +kernel
theorem dX8_begin_18 : decode cX8_begin 18 = .ok (.istore_n 2, 1) := by decide +kernel
theorem dX8_begin_19 : decode cX8_begin 19 = .ok (.iload_n 2, 1) := by decide +kernel
theorem dX8_begin_20 : decode cX8_begin 20 = .ok (.bipush 12, 2) := by decide +kernel
theorem dX8_begin_22 : decode cX8_begin 22 = .ok (.iload_n 1, 1) := by decide +kernel
theorem dX8_begin_23 : decode cX8_begin 23 = .ok (.iconst 1, 1) := by decide +kernel
theorem dX8_begin_24 : decode cX8_begin 24 = .ok (.iadd, 1) := by decide +kernel
theorem dX8_begin_25 : decode cX8_begin 25 = .ok (.imul, 1) := by decide +kernel
theorem dX8_begin_26 : decode cX8_begin 26 = .ok (.if_icmp .ge 37, 3) := by decide +kernel
theorem dX8_begin_29 : decode cX8_begin 29 = .ok (.aload_n 0, 1) := by decide +kernel
theorem dX8_begin_30 : decode cX8_begin 30 = .ok (.getfield 68, 3) := by decide +kernel
theorem dX8_begin_33 : decode cX8_begin 33 = .ok (.iload_n 2, 1) := by decide +kernel
theorem dX8_begin_34 : decode cX8_begin 34 = .ok (.iconst 0, 1) := by decide +kernel
theorem dX8_begin_35 : decode cX8_begin 35 = .ok (.iastore, 1) := by decide +kernel
theorem dX8_begin_36 : decode cX8_begin 36 = .ok (.aload_n 0, 1) := by decide +kernel
theorem dX8_begin_37 : decode cX8_begin 37 = .ok (.getfield 71, 3) := by decide +kernel
theorem dX8_begin_40 : decode cX8_begin 40 = .ok (.iload_n 2, 1) := by decide +kernel
theorem dX8_begin_41 : decode cX8_begin 41 = .ok (.iconst (-1), 1) := by decide +kernel
theorem dX8_begin_42 : decode cX8_begin 42 = .ok (.iastore, 1) := by decide +kernel
theorem dX8_begin_43 : decode cX8_begin 43 = .ok (.aload_n 0, 1) := by decide +kernel
theorem dX8_begin_44 : decode cX8_begin 44 = .ok (.getfield 74, 3) := by decide +kernel
theorem dX8_begin_47 : decode cX8_begin 47 = .ok (.iload_n 2, 1) := by decide +kernel
theorem dX8_begin_48 : decode cX8_begin 48 = .ok (.iconst 0, 1) := by decide +kernel
theorem dX8_begin_49 : decode cX8_begin 49 = .ok (.iastore, 1) := by decide +kernel
theorem dX8_begin_50 : decode cX8_begin 50 = .ok (.aload_n 0, 1) := by decide +kernel
theorem dX8_begin_51 : decode cX8_begin 51 = .ok (.getfield 77, 3) := by decide +kernel
theorem dX8_begin_54 : decode cX8_begin 54 = .ok (.iload_n 2, 1) := by decide +kernel
theorem dX8_begin_55 : decode cX8_begin 55 = .ok (.iconst 0, 1) := by decide +kernel
theorem dX8_begin_56 : decode cX8_begin 56 = .ok (.iastore, 1) := by decide +kernel
theorem dX8_begin_57 : decode cX8_begin 57 = .ok (.iinc 2 1, 3) := by decide +kernel
theorem dX8_begin_60 : decode cX8_begin 60 = .ok (.goto (-41), 3) := by decide +kernel
theorem dX8_begin_63 : decode cX8_begin 63 = .ok (.return_, 1) := by decide +kernel
theorem dX8_copy_0 : decode cX8_copy 0 = .ok (.aload_n 0, 1) := by decide +kernel
theorem dX8_copy_1 : decode cX8_copy 1 = .ok (.getfield 62, 3) := by decide +kernel
theorem dX8_copy_4 : decode cX8_copy 4 = .ok (.iload_n 2, 1) := by decide +kernel
theorem dX8_copy_5 : decode cX8_copy 5 = .ok (.aload_n 0, 1) := by decide +kernel
theorem dX8_copy_6 : decode cX8_copy 6 = .ok (.getfield 62, 3) := by decide +kernel
theorem dX8_copy_9 : decode cX8_copy 9 = .ok (.iload_n 1, 1) := by decide +kernel
theorem dX8_copy_10 : decode cX8_copy 10 = .ok (.iaload, 1) := by decide +kernel
theorem dX8_copy_11 : decode cX8_copy 11 = .ok (.iastore, 1) := by decide +kernel
theorem dX8_copy_12 : decode cX8_copy 12 = .ok (.aload_n 0, 1) := by decide +kernel
theorem dX8_copy_13 : decode cX8_copy 13 = .ok (.getfield 65, 3) := by decide +kernel
theorem dX8_copy_16 : decode cX8_copy 16 = .ok (.iload_n 2, 1) := by decide +kernel
theorem dX8_copy_17 : decode cX8_copy 17 = .ok (.aload_n 0, 1) := by decide +kernel
theorem dX8_copy_18 : decode cX8_copy 18 = .ok (.getfield 65, 3) := by decide +kernel
theorem dX8_copy_21 : decode cX8_copy 21 = .ok (.iload_n 1, 1) := by decide +kernel
theorem dX8_copy_22 : decode cX8_copy 22 = .ok (.iaload, 1) := by decide +kernel
theorem dX8_copy_23 : decode cX8_copy 23 = .ok (.iastore, 1) := by decide +kernel
theorem dX8_copy_24 : decode cX8_copy 24 = .ok (.iconst 0, 1) := by decide +kernel
theorem dX8_copy_25 : decode cX8_copy 25 = .ok (.istore_n 3, 1) := by decide +kernel
theorem dX8_copy_26 : decode cX8_copy 26 = .ok (.iload_n 3, 1) := by decide +kernel
theorem dX8_copy_27 : decode cX8_copy 27 = .ok (.bipush 12, 2) := by decide +kernel
theorem dX8_copy_29 : decode cX8_copy 29 = .ok (.if_icmp .ge 97, 3) := by decide +kernel
theorem dX8_copy_32 : decode cX8_copy 32 = .ok (.aload_n 0, 1) := by decide +kernel
theorem dX8_copy_33 : decode cX8_copy 33 = .ok (.getfield 68, 3) := by decide +kernel
theorem dX8_copy_36 : decode cX8_copy 36 = .ok (.bipush 12, 2) := by decide +kernel
theorem dX8_copy_38 : decode cX8_copy 38 = .ok (.iload_n 2, 1) := by decide +kernel
theorem dX8_copy_39 : decode cX8_copy 39 = .ok (.imul, 1) := by decide +kernel
theorem dX8_copy_40 : decode cX8_copy 40 = .ok (.iload_n 3, 1) := by decide +kernel
theorem dX8_copy_41 : decode cX8_copy 41 = .ok (.iadd, 1) := by decide +kernel
theorem dX8_copy_42 : decode cX8_copy 42 = .ok (.aload_n 0, 1) := by decide +kernel
theorem dX8_copy_43 : decode cX8_copy 43 = .ok (.getfield 68, 3) := by decide +kernel
theorem dX8_copy_46 : decode cX8_copy 46 = .ok (.bipush 12, 2) := by decide +kernel
theorem dX8_copy_48 : decode cX8_copy 48 = .ok (.iload_n 1, 1) := by decide +kernel
theorem dX8_copy_49 : decode cX8_copy 49 = .ok (.imul, 1) := by decide +kernel
theorem dX8_copy_50 : decode cX8_copy 50 = .ok (.iload_n 3, 1) := by decide +kernel
theorem dX8_copy_51 : decode cX8_copy 51 = .ok (.iadd, 1) := by decide +kernel
theorem dX8_copy_52 : decode cX8_copy 52 = .ok (.iaload, 1) := by decide +kernel
theorem dX8_copy_53 : decode cX8_copy 53 = .ok (.iastore, 1) := by decide +kernel
theorem dX8_copy_54 : decode cX8_copy 54 = .ok (.aload_n 0, 1) := by decide +kernel
theorem dX8_copy_55 : decode cX8_copy 55 = .ok (.getfield 71, 3) := by decide +kernel
theorem dX8_copy_58 : decode cX8_copy 58 = .ok (.bipush 12, 2) := by decide +kernel
theorem dX8_copy_60 : decode cX8_copy 60 = .ok (.iload_n 2, 1) := by decide +kernel
theorem dX8_copy_61 : decode cX8_copy 61 = .ok (.imul, 1) := by decide +kernel
theorem dX8_copy_62 : decode cX8_copy 62 = .ok (.iload_n 3, 1) := by decide +kernel
theorem dX8_copy_63 : decode cX8_copy 63 = .ok (.iadd, 1) := by decide +kernel
theorem dX8_copy_64 : decode cX8_copy 64 = .ok (.aload_n 0, 1) := by decide +kernel
theorem dX8_copy_65 : decode cX8_copy 65 = .ok (.getfield 71, 3) := by decide +kernel
theorem dX8_copy_68 : decode cX8_copy 68 = .ok (.bipush 12, 2) := by decide +kernel
theorem dX8_copy_70 : decode cX8_copy 70 = .ok (.iload_n 1, 1) := by decide +kernel
theorem dX8_copy_71 : decode cX8_copy 71 = .ok (.imul, 1) := by decide +kernel
theorem dX8_copy_72 : decode cX8_copy 72 = .ok (.iload_n 3, 1) := by decide +kernel
theorem dX8_copy_73 : decode cX8_copy 73 = .ok (.iadd, 1) := by decide +kernel
theorem dX8_copy_74 : decode cX8_copy 74 = .ok (.iaload, 1) := by decide +kernel
theorem dX8_copy_75 : decode cX8_copy 75 = .ok (.iastore, 1) := by decide +kernel
theorem dX8_copy_76 : decode cX8_copy 76 = .ok (.aload_n 0, 1) := by decide +kernel
theorem dX8_copy_77 : decode cX8_copy 77 = .ok (.getfield 74, 3) := by decide +kernel
theorem dX8_copy_80 : decode cX8_copy 80 = .ok (.bipush 12, 2) := by decide +kernel
theorem dX8_copy_82 : decode cX8_copy 82 = .ok (.iload_n 2, 1) := by decide +kernel
theorem dX8_copy_83 : decode cX8_copy 83 = .ok (.imul, 1) := by decide +kernel
theorem dX8_copy_84 : decode cX8_copy 84 = .ok (.iload_n 3, 1) := by decide +kernel
theorem dX8_copy_85 : decode cX8_copy 85 = .ok (.iadd, 1) := by decide +kernel
theorem dX8_copy_86 : decode cX8_copy 86 = .ok (.aload_n 0, 1) := by decide +kernel
theorem dX8_copy_87 : decode cX8_copy 87 = .ok (.getfield 74, 3) := by decide +kernel
theorem dX8_copy_90 : decode cX8_copy 90 = .ok (.bipush 12, 2) := by decide +kernel
theorem dX8_copy_92 : decode cX8_copy 92 = .ok (.iload_n 1, 1) := by decide +kernel
theorem dX8_copy_93 : decode cX8_copy 93 = .ok (.imul, 1) := by decide +kernel
theorem dX8_copy_94 : decode cX8_copy 94 = .ok (.iload_n 3, 1) := by decide +kernel
theorem dX8_copy_95 : decode cX8_copy 95 = .ok (.iadd, 1) := by decide +kernel
theorem dX8_copy_96 : decode cX8_copy 96 = .ok (.iaload, 1) := by decide +kernel
theorem dX8_copy_97 : decode cX8_copy 97 = .ok (.iastore, 1) := by decide +kernel
theorem dX8_copy_98 : decode cX8_copy 98 = .ok (.aload_n 0, 1) := by decide +kernel
theorem dX8_copy_99 : decode cX8_copy 99 = .ok (.getfield 77, 3) := by decide +kernel
theorem dX8_copy_102 : decode cX8_copy 102 = .ok (.bipush 12, 2) := by decide +kernel
theorem dX8_copy_104 : decode cX8_copy 104 = .ok (.iload_n 2, 1) := by decide +kernel
theorem dX8_copy_105 : decode cX8_copy 105 = .ok (.imul, 1) := by decide +kernel
theorem dX8_copy_106 : decode cX8_copy 106 = .ok (.iload_n 3, 1) := by decide +kernel
theorem dX8_copy_107 : decode cX8_copy 107 = .ok (.iadd, 1) := by decide +kernel
theorem dX8_copy_108 : decode cX8_copy 108 = .ok (.aload_n 0, 1) := by decide +kernel
theorem dX8_copy_109 : decode cX8_copy 109 = .ok (.getfield 77, 3) := by decide +kernel
theorem dX8_copy_112 : decode cX8_copy 112 = .ok (.bipush 12, 2) := by decide +kernel
theorem dX8_copy_114 : decode cX8_copy 114 = .ok (.iload_n 1, 1) := by decide +kernel
theorem dX8_copy_115 : decode cX8_copy 115 = .ok (.imul, 1) := by decide +kernel
theorem dX8_copy_116 : decode cX8_copy 116 = .ok (.iload_n 3, 1) := by decide +kernel
theorem dX8_copy_117 : decode cX8_copy 117 = .ok (.iadd, 1) := by decide +kernel
theorem dX8_copy_118 : decode cX8_copy 118 = .ok (.iaload, 1) := by decide +kernel
theorem dX8_copy_119 : decode cX8_copy 119 = .ok (.iastore, 1) := by decide +kernel
theorem dX8_copy_120 : decode cX8_copy 120 = .ok (.iinc 3 1, 3) := by decide +kernel
theorem dX8_copy_123 : decode cX8_copy 123 = .ok (.goto (-97), 3) := by decide +kernel
theorem dX8_copy_126 : decode cX8_copy 126 = .ok (.return_, 1) := by decide +kernel
theorem dX8_promise_0 : decode cX8_promise 0 = .ok (.aload_n 0, 1) := by decide +kernel
theorem dX8_promise_1 : decode cX8_promise 1 = .ok (.iconst 0, 1) := by decide +kernel
theorem dX8_promise_2 : decode cX8_promise 2 = .ok (.putfield 128, 3) := by decide +kernel
theorem dX8_promise_5 : decode cX8_promise 5 = .ok (.aload_n 0, 1) := by decide +kernel
theorem dX8_promise_6 : decode cX8_promise 6 = .ok (.iload_n 1, 1) := by decide +kernel
theorem dX8_promise_7 : decode cX8_promise 7 = .ok (.invokevirtual 258, 3) := by decide +kernel
theorem dX8_promise_10 : decode cX8_promise 10 = .ok (.ifCond .ne 9, 3) := by decide +kernel
theorem dX8_promise_13 : decode cX8_promise 13 = .ok (.aload_n 0, 1) := by decide +kernel
theorem dX8_promise_14 : decode cX8_promise 14 = .ok (.iconst 1, 1) := by decide +kernel
theorem dX8_promise_15 : decode cX8_promise 15 = .ok (.invokevirtual 232, 3) := by decide +kernel
theorem dX8_promise_18 : decode cX8_promise 18 = .ok (.ireturn, 1) := by decide +kernel
theorem dX8_promise_19 : decode cX8_promise 19 = .ok (.iload_n 2, 1) := by decide +kernel
theorem dX8_promise_20 : decode cX8_promise 20 = .ok (.tableswitch 104 0 7 #[48, 55, 62, 69, 76, 83, 90, 97], 48) := by decide +kernel
theorem dX8_promise_68 : decode cX8_promise 68 = .ok (.aload_n 0, 1) := by decide +kernel
theorem dX8_promise_69 : decode cX8_promise 69 = .ok (.getfield 25, 3) := by decide +kernel
theorem dX8_promise_72 : decode cX8_promise 72 = .ok (.iload_n 1, 1) := by decide +kernel
theorem dX8_promise_73 : decode cX8_promise 73 = .ok (.iaload, 1) := by decide +kernel
theorem dX8_promise_74 : decode cX8_promise 74 = .ok (.ireturn, 1) := by decide +kernel
theorem dX8_promise_75 : decode cX8_promise 75 = .ok (.aload_n 0, 1) := by decide +kernel
theorem dX8_promise_76 : decode cX8_promise 76 = .ok (.getfield 28, 3) := by decide +kernel
theorem dX8_promise_79 : decode cX8_promise 79 = .ok (.iload_n 1, 1) := by decide +kernel
theorem dX8_promise_80 : decode cX8_promise 80 = .ok (.iaload, 1) := by decide +kernel
theorem dX8_promise_81 : decode cX8_promise 81 = .ok (.ireturn, 1) := by decide +kernel
theorem dX8_promise_82 : decode cX8_promise 82 = .ok (.aload_n 0, 1) := by decide +kernel
theorem dX8_promise_83 : decode cX8_promise 83 = .ok (.getfield 31, 3) := by decide +kernel
theorem dX8_promise_86 : decode cX8_promise 86 = .ok (.iload_n 1, 1) := by decide +kernel
theorem dX8_promise_87 : decode cX8_promise 87 = .ok (.iaload, 1) := by decide +kernel
theorem dX8_promise_88 : decode cX8_promise 88 = .ok (.ireturn, 1) := by decide +kernel
theorem dX8_promise_89 : decode cX8_promise 89 = .ok (.aload_n 0, 1) := by decide +kernel
theorem dX8_promise_90 : decode cX8_promise 90 = .ok (.getfield 34, 3) := by decide +kernel
theorem dX8_promise_93 : decode cX8_promise 93 = .ok (.iload_n 1, 1) := by decide +kernel
theorem dX8_promise_94 : decode cX8_promise 94 = .ok (.iaload, 1) := by decide +kernel
theorem dX8_promise_95 : decode cX8_promise 95 = .ok (.ireturn, 1) := by decide +kernel
theorem dX8_promise_96 : decode cX8_promise 96 = .ok (.aload_n 0, 1) := by decide +kernel
theorem dX8_promise_97 : decode cX8_promise 97 = .ok (.getfield 37, 3) := by decide +kernel
theorem dX8_promise_100 : decode cX8_promise 100 = .ok (.iload_n 1, 1) := by decide +kernel
theorem dX8_promise_101 : decode cX8_promise 101 = .ok (.iaload, 1) := by decide +kernel
theorem dX8_promise_102 : decode cX8_promise 102 = .ok (.ireturn, 1) := by decide +kernel
theorem dX8_promise_103 : decode cX8_promise 103 = .ok (.aload_n 0, 1) := by decide +kernel
theorem dX8_promise_104 : decode cX8_promise 104 = .ok (.getfield 68, 3) := by decide +kernel
theorem dX8_promise_107 : decode cX8_promise 107 = .ok (.iload_n 1, 1) := by decide +kernel
theorem dX8_promise_108 : decode cX8_promise 108 = .ok (.iaload, 1) := by decide +kernel
theorem dX8_promise_109 : decode cX8_promise 109 = .ok (.ireturn, 1) := by decide +kernel
theorem dX8_promise_110 : decode cX8_promise 110 = .ok (.aload_n 0, 1) := by decide +kernel
theorem dX8_promise_111 : decode cX8_promise 111 = .ok (.getfield 71, 3) := by decide +kernel
theorem dX8_promise_114 : decode cX8_promise 114 = .ok (.iload_n 1, 1) := by decide +kernel
theorem dX8_promise_115 : decode cX8_promise 115 = .ok (.iaload, 1) := by decide +kernel
theorem dX8_promise_116 : decode cX8_promise 116 = .ok (.ireturn, 1) := by decide +kernel
theorem dX8_promise_117 : decode cX8_promise 117 = .ok (.aload_n 0, 1) := by decide +kernel
theorem dX8_promise_118 : decode cX8_promise 118 = .ok (.getfield 74, 3) := by decide +kernel
theorem dX8_promise_121 : decode cX8_promise 121 = .ok (.iload_n 1, 1) := by decide +kernel
theorem dX8_promise_122 : decode cX8_promise 122 = .ok (.iaload, 1) := by decide +kernel
theorem dX8_promise_123 : decode cX8_promise 123 = .ok (.ireturn, 1) := by decide +kernel
theorem dX8_promise_124 : decode cX8_promise 124 = .ok (.aload_n 0, 1) := by decide +kernel
theorem dX8_promise_125 : decode cX8_promise 125 = .ok (.iconst 1, 1) := by decide +kernel
theorem dX8_promise_126 : decode cX8_promise 126 = .ok (.invokevirtual 232, 3) := by decide +kernel
theorem dX8_promise_129 : decode cX8_promise 129 = .ok (.ireturn, 1) := by decide +kernel
theorem dX8_undo_0 : decode cX8_undo 0 = .ok (.aload_n 0, 1) := by decide +kernel
theorem dX8_undo_1 : decode cX8_undo 1 = .ok (.getfield 68, 3) := by decide +kernel
theorem dX8_undo_4 : decode cX8_undo 4 = .ok (.bipush 12, 2) := by decide +kernel
theorem dX8_undo_6 : decode cX8_undo 6 = .ok (.iload_n 1, 1) := by decide +kernel
theorem dX8_undo_7 : decode cX8_undo 7 = .ok (.imul, 1) := by decide +kernel
theorem dX8_undo_8 : decode cX8_undo 8 = .ok (.iload_n 2, 1) := by decide +kernel
theorem dX8_undo_9 : decode cX8_undo 9 = .ok (.iadd, 1) := by decide +kernel
theorem dX8_undo_10 : decode cX8_undo 10 = .ok (.iconst 2, 1) := by decide +kernel
theorem dX8_undo_11 : decode cX8_undo 11 = .ok (.iastore, 1) := by decide +kernel
theorem dX8_undo_12 : decode cX8_undo 12 = .ok (.aload_n 0, 1) := by decide +kernel
theorem dX8_undo_13 : decode cX8_undo 13 = .ok (.getfield 71, 3) := by decide +kernel
theorem dX8_undo_16 : decode cX8_undo 16 = .ok (.bipush 12, 2) := by decide +kernel
theorem dX8_undo_18 : decode cX8_undo 18 = .ok (.iload_n 1, 1) := by decide +kernel
theorem dX8_undo_19 : decode cX8_undo 19 = .ok (.imul, 1) := by decide +kernel
theorem dX8_undo_20 : decode cX8_undo 20 = .ok (.iload_n 2, 1) := by decide +kernel
theorem dX8_undo_21 : decode cX8_undo 21 = .ok (.iadd, 1) := by decide +kernel
theorem dX8_undo_22 : decode cX8_undo 22 = .ok (.aload_n 0, 1) := by decide +kernel
theorem dX8_undo_23 : decode cX8_undo 23 = .ok (.getfield 62, 3) := by decide +kernel
theorem dX8_undo_26 : decode cX8_undo 26 = .ok (.iload_n 1, 1) := by decide +kernel
theorem dX8_undo_27 : decode cX8_undo 27 = .ok (.iaload, 1) := by decide +kernel
theorem dX8_undo_28 : decode cX8_undo 28 = .ok (.iastore, 1) := by decide +kernel
theorem dX8_undo_29 : decode cX8_undo 29 = .ok (.return_, 1) := by decide +kernel
theorem dX8_leansWell_0 : decode cX8_leansWell 0 = .ok (.iconst 0, 1) := by decide +kernel
theorem dX8_leansWell_1 : decode cX8_leansWell 1 = .ok (.istore_n 3, 1) := by decide +kernel
theorem dX8_leansWell_2 : decode cX8_leansWell 2 = .ok (.iload_n 3, 1) := by decide +kernel
theorem dX8_leansWell_3 : decode cX8_leansWell 3 = .ok (.aload_n 0, 1) := by decide +kernel
theorem dX8_leansWell_4 : decode cX8_leansWell 4 = .ok (.getfield 7, 3) := by decide +kernel
theorem dX8_leansWell_7 : decode cX8_leansWell 7 = .ok (.iconst 2, 1) := by decide +kernel
theorem dX8_leansWell_8 : decode cX8_leansWell 8 = .ok (.iaload, 1) := by decide +kernel
theorem dX8_leansWell_9 : decode cX8_leansWell 9 = .ok (.if_icmp .ge 40, 3) := by decide +kernel
theorem dX8_leansWell_12 : decode cX8_leansWell 12 = .ok (.aload_n 0, 1) := by decide +kernel
theorem dX8_leansWell_13 : decode cX8_leansWell 13 = .ok (.getfield 37, 3) := by decide +kernel
theorem dX8_leansWell_16 : decode cX8_leansWell 16 = .ok (.iload_n 2, 1) := by decide +kernel
theorem dX8_leansWell_17 : decode cX8_leansWell 17 = .ok (.iaload, 1) := by decide +kernel
theorem dX8_leansWell_18 : decode cX8_leansWell 18 = .ok (.iload_n 3, 1) := by decide +kernel
theorem dX8_leansWell_19 : decode cX8_leansWell 19 = .ok (.ishr, 1) := by decide +kernel
theorem dX8_leansWell_20 : decode cX8_leansWell 20 = .ok (.iconst 1, 1) := by decide +kernel
theorem dX8_leansWell_21 : decode cX8_leansWell 21 = .ok (.iand, 1) := by decide +kernel
theorem dX8_leansWell_22 : decode cX8_leansWell 22 = .ok (.iconst 1, 1) := by decide +kernel
theorem dX8_leansWell_23 : decode cX8_leansWell 23 = .ok (.if_icmp .ne 20, 3) := by decide +kernel
theorem dX8_leansWell_26 : decode cX8_leansWell 26 = .ok (.aload_n 0, 1) := by decide +kernel
theorem dX8_leansWell_27 : decode cX8_leansWell 27 = .ok (.getfield 68, 3) := by decide +kernel
theorem dX8_leansWell_30 : decode cX8_leansWell 30 = .ok (.bipush 12, 2) := by decide +kernel
theorem dX8_leansWell_32 : decode cX8_leansWell 32 = .ok (.iload_n 1, 1) := by decide +kernel
theorem dX8_leansWell_33 : decode cX8_leansWell 33 = .ok (.imul, 1) := by decide +kernel
theorem dX8_leansWell_34 : decode cX8_leansWell 34 = .ok (.iload_n 3, 1) := by decide +kernel
theorem dX8_leansWell_35 : decode cX8_leansWell 35 = .ok (.iadd, 1) := by decide +kernel
theorem dX8_leansWell_36 : decode cX8_leansWell 36 = .ok (.iaload, 1) := by decide +kernel
theorem dX8_leansWell_37 : decode cX8_leansWell 37 = .ok (.iconst 1, 1) := by decide +kernel
theorem dX8_leansWell_38 : decode cX8_leansWell 38 = .ok (.if_icmp .eq 5, 3) := by decide +kernel
theorem dX8_leansWell_41 : decode cX8_leansWell 41 = .ok (.iconst 0, 1) := by decide +kernel
theorem dX8_leansWell_42 : decode cX8_leansWell 42 = .ok (.ireturn, 1) := by decide +kernel
theorem dX8_leansWell_43 : decode cX8_leansWell 43 = .ok (.iinc 3 1, 3) := by decide +kernel
theorem dX8_leansWell_46 : decode cX8_leansWell 46 = .ok (.goto (-44), 3) := by decide +kernel
theorem dX8_leansWell_49 : decode cX8_leansWell 49 = .ok (.iconst 1, 1) := by decide +kernel
theorem dX8_leansWell_50 : decode cX8_leansWell 50 = .ok (.ireturn, 1) := by decide +kernel
theorem dX8_make_0 : decode cX8_make 0 = .ok (.iconst 0, 1) := by decide +kernel
theorem dX8_make_1 : decode cX8_make 1 = .ok (.istore_n 3, 1) := by decide +kernel
theorem dX8_make_2 : decode cX8_make 2 = .ok (.iconst 0, 1) := by decide +kernel
theorem dX8_make_3 : decode cX8_make 3 = .ok (.istore 4, 2) := by decide +kernel
theorem dX8_make_5 : decode cX8_make 5 = .ok (.iload 4, 2) := by decide +kernel
theorem dX8_make_7 : decode cX8_make 7 = .ok (.aload_n 0, 1) := by decide +kernel
theorem dX8_make_8 : decode cX8_make 8 = .ok (.getfield 7, 3) := by decide +kernel
theorem dX8_make_11 : decode cX8_make 11 = .ok (.iconst 2, 1) := by decide +kernel
theorem dX8_make_12 : decode cX8_make 12 = .ok (.iaload, 1) := by decide +kernel
theorem dX8_make_13 : decode cX8_make 13 = .ok (.if_icmp .ge 106, 3) := by decide +kernel
theorem dX8_make_16 : decode cX8_make 16 = .ok (.aload_n 0, 1) := by decide +kernel
theorem dX8_make_17 : decode cX8_make 17 = .ok (.getfield 31, 3) := by decide +kernel
theorem dX8_make_20 : decode cX8_make 20 = .ok (.iload 4, 2) := by decide +kernel
theorem dX8_make_22 : decode cX8_make 22 = .ok (.iaload, 1) := by decide +kernel
theorem dX8_make_23 : decode cX8_make 23 = .ok (.aload_n 0, 1) := by decide +kernel
theorem dX8_make_24 : decode cX8_make 24 = .ok (.getfield 62, 3) := by decide +kernel
theorem dX8_make_27 : decode cX8_make 27 = .ok (.iload_n 1, 1) := by decide +kernel
theorem dX8_make_28 : decode cX8_make 28 = .ok (.iaload, 1) := by decide +kernel
theorem dX8_make_29 : decode cX8_make 29 = .ok (.if_icmp .ne 84, 3) := by decide +kernel
theorem dX8_make_32 : decode cX8_make 32 = .ok (.aload_n 0, 1) := by decide +kernel
theorem dX8_make_33 : decode cX8_make 33 = .ok (.getfield 34, 3) := by decide +kernel
theorem dX8_make_36 : decode cX8_make 36 = .ok (.iload 4, 2) := by decide +kernel
theorem dX8_make_38 : decode cX8_make 38 = .ok (.iaload, 1) := by decide +kernel
theorem dX8_make_39 : decode cX8_make 39 = .ok (.iload_n 2, 1) := by decide +kernel
theorem dX8_make_40 : decode cX8_make 40 = .ok (.if_icmp .eq 6, 3) := by decide +kernel
theorem dX8_make_43 : decode cX8_make 43 = .ok (.goto 70, 3) := by decide +kernel
theorem dX8_make_46 : decode cX8_make 46 = .ok (.aload_n 0, 1) := by decide +kernel
theorem dX8_make_47 : decode cX8_make 47 = .ok (.iload_n 1, 1) := by decide +kernel
theorem dX8_make_48 : decode cX8_make 48 = .ok (.iload 4, 2) := by decide +kernel
theorem dX8_make_50 : decode cX8_make 50 = .ok (.invokevirtual 261, 3) := by decide +kernel
theorem dX8_make_53 : decode cX8_make 53 = .ok (.ifCond .eq 50, 3) := by decide +kernel
theorem dX8_make_56 : decode cX8_make 56 = .ok (.aload_n 0, 1) := by decide +kernel
theorem dX8_make_57 : decode cX8_make 57 = .ok (.getfield 68, 3) := by decide +kernel
theorem dX8_make_60 : decode cX8_make 60 = .ok (.bipush 12, 2) := by decide +kernel
theorem dX8_make_62 : decode cX8_make 62 = .ok (.iload_n 1, 1) := by decide +kernel
theorem dX8_make_63 : decode cX8_make 63 = .ok (.imul, 1) := by decide +kernel
theorem dX8_make_64 : decode cX8_make 64 = .ok (.iload 4, 2) := by decide +kernel
theorem dX8_make_66 : decode cX8_make 66 = .ok (.iadd, 1) := by decide +kernel
theorem dX8_make_67 : decode cX8_make 67 = .ok (.iconst 1, 1) := by decide +kernel
theorem dX8_make_68 : decode cX8_make 68 = .ok (.iastore, 1) := by decide +kernel
theorem dX8_make_69 : decode cX8_make 69 = .ok (.aload_n 0, 1) := by decide +kernel
theorem dX8_make_70 : decode cX8_make 70 = .ok (.getfield 77, 3) := by decide +kernel
theorem dX8_make_73 : decode cX8_make 73 = .ok (.bipush 12, 2) := by decide +kernel
theorem dX8_make_75 : decode cX8_make 75 = .ok (.iload_n 1, 1) := by decide +kernel
theorem dX8_make_76 : decode cX8_make 76 = .ok (.imul, 1) := by decide +kernel
theorem dX8_make_77 : decode cX8_make 77 = .ok (.iload 4, 2) := by decide +kernel
theorem dX8_make_79 : decode cX8_make 79 = .ok (.iadd, 1) := by decide +kernel
theorem dX8_make_80 : decode cX8_make 80 = .ok (.iconst 1, 1) := by decide +kernel
theorem dX8_make_81 : decode cX8_make 81 = .ok (.aload_n 0, 1) := by decide +kernel
theorem dX8_make_82 : decode cX8_make 82 = .ok (.getfield 25, 3) := by decide +kernel
theorem dX8_make_85 : decode cX8_make 85 = .ok (.iload 4, 2) := by decide +kernel
theorem dX8_make_87 : decode cX8_make 87 = .ok (.iaload, 1) := by decide +kernel
theorem dX8_make_88 : decode cX8_make 88 = .ok (.ishl, 1) := by decide +kernel
theorem dX8_make_89 : decode cX8_make 89 = .ok (.iconst 1, 1) := by decide +kernel
theorem dX8_make_90 : decode cX8_make 90 = .ok (.aload_n 0, 1) := by decide +kernel
theorem dX8_make_91 : decode cX8_make 91 = .ok (.getfield 28, 3) := by decide +kernel
theorem dX8_make_94 : decode cX8_make 94 = .ok (.iload 4, 2) := by decide +kernel
theorem dX8_make_96 : decode cX8_make 96 = .ok (.iaload, 1) := by decide +kernel
theorem dX8_make_97 : decode cX8_make 97 = .ok (.ishl, 1) := by decide +kernel
theorem dX8_make_98 : decode cX8_make 98 = .ok (.ior, 1) := by decide +kernel
theorem dX8_make_99 : decode cX8_make 99 = .ok (.iastore, 1) := by decide +kernel
theorem dX8_make_100 : decode cX8_make 100 = .ok (.goto 13, 3) := by decide +kernel
theorem dX8_make_103 : decode cX8_make 103 = .ok (.aload_n 0, 1) := by decide +kernel
theorem dX8_make_104 : decode cX8_make 104 = .ok (.iload_n 1, 1) := by decide +kernel
theorem dX8_make_105 : decode cX8_make 105 = .ok (.iload 4, 2) := by decide +kernel
theorem dX8_make_107 : decode cX8_make 107 = .ok (.invokevirtual 265, 3) := by decide +kernel
theorem dX8_make_110 : decode cX8_make 110 = .ok (.iinc 3 1, 3) := by decide +kernel
theorem dX8_make_113 : decode cX8_make 113 = .ok (.iinc 4 1, 3) := by decide +kernel
theorem dX8_make_116 : decode cX8_make 116 = .ok (.goto (-111), 3) := by decide +kernel
theorem dX8_make_119 : decode cX8_make 119 = .ok (.iload_n 3, 1) := by decide +kernel
theorem dX8_make_120 : decode cX8_make 120 = .ok (.ireturn, 1) := by decide +kernel
theorem dX8_speak_0 : decode cX8_speak 0 = .ok (.iload_n 3, 1) := by decide +kernel
theorem dX8_speak_1 : decode cX8_speak 1 = .ok (.istore 4, 2) := by decide +kernel
theorem dX8_speak_3 : decode cX8_speak 3 = .ok (.iconst 0, 1) := by decide +kernel
theorem dX8_speak_4 : decode cX8_speak 4 = .ok (.istore 5, 2) := by decide +kernel
theorem dX8_speak_6 : decode cX8_speak 6 = .ok (.iload 5, 2) := by decide +kernel
theorem dX8_speak_8 : decode cX8_speak 8 = .ok (.aload_n 0, 1) := by decide +kernel
theorem dX8_speak_9 : decode cX8_speak 9 = .ok (.getfield 242, 3) := by decide +kernel
theorem dX8_speak_12 : decode cX8_speak 12 = .ok (.if_icmp .ge 245, 3) := by decide +kernel
theorem dX8_speak_15 : decode cX8_speak 15 = .ok (.aload_n 0, 1) := by decide +kernel
theorem dX8_speak_16 : decode cX8_speak 16 = .ok (.getfield 43, 3) := by decide +kernel
theorem dX8_speak_19 : decode cX8_speak 19 = .ok (.iload 5, 2) := by decide +kernel
theorem dX8_speak_21 : decode cX8_speak 21 = .ok (.iaload, 1) := by decide +kernel
theorem dX8_speak_22 : decode cX8_speak 22 = .ok (.iload_n 2, 1) := by decide +kernel
theorem dX8_speak_23 : decode cX8_speak 23 = .ok (.if_icmp .ne 228, 3) := by decide +kernel
theorem dX8_speak_26 : decode cX8_speak 26 = .ok (.aload_n 0, 1) := by decide +kernel
theorem dX8_speak_27 : decode cX8_speak 27 = .ok (.getfield 40, 3) := by decide +kernel
theorem dX8_speak_30 : decode cX8_speak 30 = .ok (.iload 5, 2) := by decide +kernel
theorem dX8_speak_32 : decode cX8_speak 32 = .ok (.iaload, 1) := by decide +kernel
theorem dX8_speak_33 : decode cX8_speak 33 = .ok (.iconst (-1), 1) := by decide +kernel
theorem dX8_speak_34 : decode cX8_speak 34 = .ok (.if_icmp .eq 22, 3) := by decide +kernel
theorem dX8_speak_37 : decode cX8_speak 37 = .ok (.aload_n 0, 1) := by decide +kernel
theorem dX8_speak_38 : decode cX8_speak 38 = .ok (.getfield 40, 3) := by decide +kernel
theorem dX8_speak_41 : decode cX8_speak 41 = .ok (.iload 5, 2) := by decide +kernel
theorem dX8_speak_43 : decode cX8_speak 43 = .ok (.iaload, 1) := by decide +kernel
theorem dX8_speak_44 : decode cX8_speak 44 = .ok (.aload_n 0, 1) := by decide +kernel
theorem dX8_speak_45 : decode cX8_speak 45 = .ok (.getfield 62, 3) := by decide +kernel
theorem dX8_speak_48 : decode cX8_speak 48 = .ok (.iload_n 1, 1) := by decide +kernel
theorem dX8_speak_49 : decode cX8_speak 49 = .ok (.iaload, 1) := by decide +kernel
theorem dX8_speak_50 : decode cX8_speak 50 = .ok (.if_icmp .eq 6, 3) := by decide +kernel
theorem dX8_speak_53 : decode cX8_speak 53 = .ok (.goto 198, 3) := by decide +kernel
theorem dX8_speak_56 : decode cX8_speak 56 = .ok (.aload_n 0, 1) := by decide +kernel
theorem dX8_speak_57 : decode cX8_speak 57 = .ok (.getfield 46, 3) := by decide +kernel
theorem dX8_speak_60 : decode cX8_speak 60 = .ok (.iload 5, 2) := by decide +kernel
theorem dX8_speak_62 : decode cX8_speak 62 = .ok (.iaload, 1) := by decide +kernel
theorem dX8_speak_63 : decode cX8_speak 63 = .ok (.ifCond .ne 12, 3) := by decide +kernel
theorem dX8_speak_66 : decode cX8_speak 66 = .ok (.aload_n 0, 1) := by decide +kernel
theorem dX8_speak_67 : decode cX8_speak 67 = .ok (.getfield 16, 3) := by decide +kernel
theorem dX8_speak_70 : decode cX8_speak 70 = .ok (.iload_n 2, 1) := by decide +kernel
theorem dX8_speak_71 : decode cX8_speak 71 = .ok (.iaload, 1) := by decide +kernel
theorem dX8_speak_72 : decode cX8_speak 72 = .ok (.goto 9, 3) := by decide +kernel
theorem dX8_speak_75 : decode cX8_speak 75 = .ok (.aload_n 0, 1) := by decide +kernel
theorem dX8_speak_76 : decode cX8_speak 76 = .ok (.getfield 19, 3) := by decide +kernel
theorem dX8_speak_79 : decode cX8_speak 79 = .ok (.iload_n 2, 1) := by decide +kernel
theorem dX8_speak_80 : decode cX8_speak 80 = .ok (.iaload, 1) := by decide +kernel
theorem dX8_speak_81 : decode cX8_speak 81 = .ok (.istore 6, 2) := by decide +kernel
theorem dX8_speak_83 : decode cX8_speak 83 = .ok (.aload_n 0, 1) := by decide +kernel
theorem dX8_speak_84 : decode cX8_speak 84 = .ok (.getfield 46, 3) := by decide +kernel
theorem dX8_speak_87 : decode cX8_speak 87 = .ok (.iload 5, 2) := by decide +kernel
theorem dX8_speak_89 : decode cX8_speak 89 = .ok (.iaload, 1) := by decide +kernel
theorem dX8_speak_90 : decode cX8_speak 90 = .ok (.ifCond .ne 12, 3) := by decide +kernel
theorem dX8_speak_93 : decode cX8_speak 93 = .ok (.aload_n 0, 1) := by decide +kernel
theorem dX8_speak_94 : decode cX8_speak 94 = .ok (.getfield 19, 3) := by decide +kernel
theorem dX8_speak_97 : decode cX8_speak 97 = .ok (.iload_n 2, 1) := by decide +kernel
theorem dX8_speak_98 : decode cX8_speak 98 = .ok (.iaload, 1) := by decide +kernel
theorem dX8_speak_99 : decode cX8_speak 99 = .ok (.goto 9, 3) := by decide +kernel
theorem dX8_speak_102 : decode cX8_speak 102 = .ok (.aload_n 0, 1) := by decide +kernel
theorem dX8_speak_103 : decode cX8_speak 103 = .ok (.getfield 16, 3) := by decide +kernel
theorem dX8_speak_106 : decode cX8_speak 106 = .ok (.iload_n 2, 1) := by decide +kernel
theorem dX8_speak_107 : decode cX8_speak 107 = .ok (.iaload, 1) := by decide +kernel
theorem dX8_speak_108 : decode cX8_speak 108 = .ok (.istore 7, 2) := by decide +kernel
theorem dX8_speak_110 : decode cX8_speak 110 = .ok (.bipush 12, 2) := by decide +kernel
theorem dX8_speak_112 : decode cX8_speak 112 = .ok (.iload_n 1, 1) := by decide +kernel
theorem dX8_speak_113 : decode cX8_speak 113 = .ok (.imul, 1) := by decide +kernel
theorem dX8_speak_114 : decode cX8_speak 114 = .ok (.aload_n 0, 1) := by decide +kernel
theorem dX8_speak_115 : decode cX8_speak 115 = .ok (.getfield 49, 3) := by decide +kernel
theorem dX8_speak_118 : decode cX8_speak 118 = .ok (.iload 5, 2) := by decide +kernel
theorem dX8_speak_120 : decode cX8_speak 120 = .ok (.iaload, 1) := by decide +kernel
theorem dX8_speak_121 : decode cX8_speak 121 = .ok (.iadd, 1) := by decide +kernel
theorem dX8_speak_122 : decode cX8_speak 122 = .ok (.istore 8, 2) := by decide +kernel
theorem dX8_speak_124 : decode cX8_speak 124 = .ok (.iload 4, 2) := by decide +kernel
theorem dX8_speak_126 : decode cX8_speak 126 = .ok (.iload 6, 2) := by decide +kernel
theorem dX8_speak_128 : decode cX8_speak 128 = .ok (.ishr, 1) := by decide +kernel
theorem dX8_speak_129 : decode cX8_speak 129 = .ok (.iconst 1, 1) := by decide +kernel
theorem dX8_speak_130 : decode cX8_speak 130 = .ok (.iand, 1) := by decide +kernel
theorem dX8_speak_131 : decode cX8_speak 131 = .ok (.iconst 1, 1) := by decide +kernel
theorem dX8_speak_132 : decode cX8_speak 132 = .ok (.if_icmp .eq 119, 3) := by decide +kernel
theorem dX8_speak_135 : decode cX8_speak 135 = .ok (.aload_n 0, 1) := by decide +kernel
theorem dX8_speak_136 : decode cX8_speak 136 = .ok (.getfield 68, 3) := by decide +kernel
theorem dX8_speak_139 : decode cX8_speak 139 = .ok (.iload 8, 2) := by decide +kernel
theorem dX8_speak_141 : decode cX8_speak 141 = .ok (.iaload, 1) := by decide +kernel
theorem dX8_speak_142 : decode cX8_speak 142 = .ok (.iconst 1, 1) := by decide +kernel
theorem dX8_speak_143 : decode cX8_speak 143 = .ok (.if_icmp .ne 108, 3) := by decide +kernel
theorem dX8_speak_146 : decode cX8_speak 146 = .ok (.aload_n 0, 1) := by decide +kernel
theorem dX8_speak_147 : decode cX8_speak 147 = .ok (.getfield 74, 3) := by decide +kernel
theorem dX8_speak_150 : decode cX8_speak 150 = .ok (.iload 8, 2) := by decide +kernel
theorem dX8_speak_152 : decode cX8_speak 152 = .ok (.iaload, 1) := by decide +kernel
theorem dX8_speak_153 : decode cX8_speak 153 = .ok (.aload_n 0, 1) := by decide +kernel
theorem dX8_speak_154 : decode cX8_speak 154 = .ok (.getfield 77, 3) := by decide +kernel
theorem dX8_speak_157 : decode cX8_speak 157 = .ok (.iload 8, 2) := by decide +kernel
theorem dX8_speak_159 : decode cX8_speak 159 = .ok (.iaload, 1) := by decide +kernel
theorem dX8_speak_160 : decode cX8_speak 160 = .ok (.ior, 1) := by decide +kernel
theorem dX8_speak_161 : decode cX8_speak 161 = .ok (.iload 6, 2) := by decide +kernel
theorem dX8_speak_163 : decode cX8_speak 163 = .ok (.ishr, 1) := by decide +kernel
theorem dX8_speak_164 : decode cX8_speak 164 = .ok (.iconst 1, 1) := by decide +kernel
theorem dX8_speak_165 : decode cX8_speak 165 = .ok (.iand, 1) := by decide +kernel
theorem dX8_speak_166 : decode cX8_speak 166 = .ok (.ifCond .ne 6, 3) := by decide +kernel
theorem dX8_speak_169 : decode cX8_speak 169 = .ok (.goto 82, 3) := by decide +kernel
theorem dX8_speak_172 : decode cX8_speak 172 = .ok (.iload 4, 2) := by decide +kernel
theorem dX8_speak_174 : decode cX8_speak 174 = .ok (.iconst 1, 1) := by decide +kernel
theorem dX8_speak_175 : decode cX8_speak 175 = .ok (.iload 6, 2) := by decide +kernel
theorem dX8_speak_177 : decode cX8_speak 177 = .ok (.ishl, 1) := by decide +kernel
theorem dX8_speak_178 : decode cX8_speak 178 = .ok (.ior, 1) := by decide +kernel
theorem dX8_speak_179 : decode cX8_speak 179 = .ok (.istore 4, 2) := by decide +kernel
theorem dX8_speak_181 : decode cX8_speak 181 = .ok (.aload_n 0, 1) := by decide +kernel
theorem dX8_speak_182 : decode cX8_speak 182 = .ok (.getfield 65, 3) := by decide +kernel
theorem dX8_speak_185 : decode cX8_speak 185 = .ok (.iload_n 1, 1) := by decide +kernel
theorem dX8_speak_186 : decode cX8_speak 186 = .ok (.dup2, 1) := by decide +kernel
theorem dX8_speak_187 : decode cX8_speak 187 = .ok (.iaload, 1) := by decide +kernel
theorem dX8_speak_188 : decode cX8_speak 188 = .ok (.aload_n 0, 1) := by decide +kernel
theorem dX8_speak_189 : decode cX8_speak 189 = .ok (.getfield 13, 3) := by decide +kernel
theorem dX8_speak_192 : decode cX8_speak 192 = .ok (.iload 6, 2) := by decide +kernel
theorem dX8_speak_194 : decode cX8_speak 194 = .ok (.iaload, 1) := by decide +kernel
theorem dX8_speak_195 : decode cX8_speak 195 = .ok (.iadd, 1) := by decide +kernel
theorem dX8_speak_196 : decode cX8_speak 196 = .ok (.iastore, 1) := by decide +kernel
theorem dX8_speak_197 : decode cX8_speak 197 = .ok (.aload_n 0, 1) := by decide +kernel
theorem dX8_speak_198 : decode cX8_speak 198 = .ok (.getfield 80, 3) := by decide +kernel
theorem dX8_speak_201 : decode cX8_speak 201 = .ok (.aload_n 0, 1) := by decide +kernel
theorem dX8_speak_202 : decode cX8_speak 202 = .ok (.getfield 49, 3) := by decide +kernel
theorem dX8_speak_205 : decode cX8_speak 205 = .ok (.iload 5, 2) := by decide +kernel
theorem dX8_speak_207 : decode cX8_speak 207 = .ok (.iaload, 1) := by decide +kernel
theorem dX8_speak_208 : decode cX8_speak 208 = .ok (.dup2, 1) := by decide +kernel
theorem dX8_speak_209 : decode cX8_speak 209 = .ok (.baload, 1) := by decide +kernel
theorem dX8_speak_210 : decode cX8_speak 210 = .ok (.aload_n 0, 1) := by decide +kernel
theorem dX8_speak_211 : decode cX8_speak 211 = .ok (.getfield 77, 3) := by decide +kernel
theorem dX8_speak_214 : decode cX8_speak 214 = .ok (.iload 8, 2) := by decide +kernel
theorem dX8_speak_216 : decode cX8_speak 216 = .ok (.iaload, 1) := by decide +kernel
theorem dX8_speak_217 : decode cX8_speak 217 = .ok (.iload 7, 2) := by decide +kernel
theorem dX8_speak_219 : decode cX8_speak 219 = .ok (.ishr, 1) := by decide +kernel
theorem dX8_speak_220 : decode cX8_speak 220 = .ok (.iconst 1, 1) := by decide +kernel
theorem dX8_speak_221 : decode cX8_speak 221 = .ok (.iand, 1) := by decide +kernel
theorem dX8_speak_222 : decode cX8_speak 222 = .ok (.ifCond .ne 7, 3) := by decide +kernel
theorem dX8_speak_225 : decode cX8_speak 225 = .ok (.iconst 1, 1) := by decide +kernel
theorem dX8_speak_226 : decode cX8_speak 226 = .ok (.goto 4, 3) := by decide +kernel
theorem dX8_speak_229 : decode cX8_speak 229 = .ok (.iconst 0, 1) := by decide +kernel
theorem dX8_speak_230 : decode cX8_speak 230 = .ok (.ior, 1) := by decide +kernel
theorem dX8_speak_231 : decode cX8_speak 231 = .ok (.bastore, 1) := by decide +kernel
theorem dX8_speak_232 : decode cX8_speak 232 = .ok (.aload_n 0, 1) := by decide +kernel
theorem dX8_speak_233 : decode cX8_speak 233 = .ok (.getfield 77, 3) := by decide +kernel
theorem dX8_speak_236 : decode cX8_speak 236 = .ok (.iload 8, 2) := by decide +kernel
theorem dX8_speak_238 : decode cX8_speak 238 = .ok (.dup2, 1) := by decide +kernel
theorem dX8_speak_239 : decode cX8_speak 239 = .ok (.iaload, 1) := by decide +kernel
theorem dX8_speak_240 : decode cX8_speak 240 = .ok (.iconst 1, 1) := by decide +kernel
theorem dX8_speak_241 : decode cX8_speak 241 = .ok (.iload 6, 2) := by decide +kernel
theorem dX8_speak_243 : decode cX8_speak 243 = .ok (.ishl, 1) := by decide +kernel
theorem dX8_speak_244 : decode cX8_speak 244 = .ok (.iconst 1, 1) := by decide +kernel
theorem dX8_speak_245 : decode cX8_speak 245 = .ok (.iload 7, 2) := by decide +kernel
theorem dX8_speak_247 : decode cX8_speak 247 = .ok (.ishl, 1) := by decide +kernel
theorem dX8_speak_248 : decode cX8_speak 248 = .ok (.ior, 1) := by decide +kernel
theorem dX8_speak_249 : decode cX8_speak 249 = .ok (.ior, 1) := by decide +kernel
theorem dX8_speak_250 : decode cX8_speak 250 = .ok (.iastore, 1) := by decide +kernel
theorem dX8_speak_251 : decode cX8_speak 251 = .ok (.iinc 5 1, 3) := by decide +kernel
theorem dX8_speak_254 : decode cX8_speak 254 = .ok (.goto (-248), 3) := by decide +kernel
theorem dX8_speak_257 : decode cX8_speak 257 = .ok (.iload 4, 2) := by decide +kernel
theorem dX8_speak_259 : decode cX8_speak 259 = .ok (.ireturn, 1) := by decide +kernel
theorem dX8_beginDay_0 : decode cX8_beginDay 0 = .ok (.iconst 0, 1) := by decide +kernel
theorem dX8_beginDay_1 : decode cX8_beginDay 1 = .ok (.istore_n 2, 1) := by decide +kernel
theorem dX8_beginDay_2 : decode cX8_beginDay 2 = .ok (.iload_n 2, 1) := by decide +kernel
theorem dX8_beginDay_3 : decode cX8_beginDay 3 = .ok (.bipush 12, 2) := by decide +kernel
theorem dX8_beginDay_5 : decode cX8_beginDay 5 = .ok (.if_icmp .ge 28, 3) := by decide +kernel
theorem dX8_beginDay_8 : decode cX8_beginDay 8 = .ok (.aload_n 0, 1) := by decide +kernel
theorem dX8_beginDay_9 : decode cX8_beginDay 9 = .ok (.getfield 77, 3) := by decide +kernel
theorem dX8_beginDay_12 : decode cX8_beginDay 12 = .ok (.bipush 12, 2) := by decide +kernel
theorem dX8_beginDay_14 : decode cX8_beginDay 14 = .ok (.iload_n 1, 1) := by decide +kernel
theorem dX8_beginDay_15 : decode cX8_beginDay 15 = .ok (.imul, 1) := by decide +kernel
theorem dX8_beginDay_16 : decode cX8_beginDay 16 = .ok (.iload_n 2, 1) := by decide +kernel
theorem dX8_beginDay_17 : decode cX8_beginDay 17 = .ok (.iadd, 1) := by decide +kernel
theorem dX8_beginDay_18 : decode cX8_beginDay 18 = .ok (.iconst 0, 1) := by decide +kernel
theorem dX8_beginDay_19 : decode cX8_beginDay 19 = .ok (.iastore, 1) := by decide +kernel
theorem dX8_beginDay_20 : decode cX8_beginDay 20 = .ok (.aload_n 0, 1) := by decide +kernel
theorem dX8_beginDay_21 : decode cX8_beginDay 21 = .ok (.getfield 80, 3) := by decide +kernel
theorem dX8_beginDay_24 : decode cX8_beginDay 24 = .ok (.iload_n 2, 1) := by decide +kernel
theorem dX8_beginDay_25 : decode cX8_beginDay 25 = .ok (.iconst 0, 1) := by decide +kernel
theorem dX8_beginDay_26 : decode cX8_beginDay 26 = .ok (.bastore, 1) := by decide +kernel
theorem dX8_beginDay_27 : decode cX8_beginDay 27 = .ok (.iinc 2 1, 3) := by decide +kernel
theorem dX8_beginDay_30 : decode cX8_beginDay 30 = .ok (.goto (-28), 3) := by decide +kernel
theorem dX8_beginDay_33 : decode cX8_beginDay 33 = .ok (.return_, 1) := by decide +kernel
theorem dX8_hour_0 : decode cX8_hour 0 = .ok (.aload_n 0, 1) := by decide +kernel
theorem dX8_hour_1 : decode cX8_hour 1 = .ok (.iload_n 1, 1) := by decide +kernel
theorem dX8_hour_2 : decode cX8_hour 2 = .ok (.iload_n 2, 1) := by decide +kernel
theorem dX8_hour_3 : decode cX8_hour 3 = .ok (.invokevirtual 269, 3) := by decide +kernel
theorem dX8_hour_6 : decode cX8_hour 6 = .ok (.istore_n 3, 1) := by decide +kernel
theorem dX8_hour_7 : decode cX8_hour 7 = .ok (.iconst 0, 1) := by decide +kernel
theorem dX8_hour_8 : decode cX8_hour 8 = .ok (.istore 4, 2) := by decide +kernel
theorem dX8_hour_10 : decode cX8_hour 10 = .ok (.iconst 0, 1) := by decide +kernel
theorem dX8_hour_11 : decode cX8_hour 11 = .ok (.istore 5, 2) := by decide +kernel
theorem dX8_hour_13 : decode cX8_hour 13 = .ok (.iload 5, 2) := by decide +kernel
theorem dX8_hour_15 : decode cX8_hour 15 = .ok (.aload_n 0, 1) := by decide +kernel
theorem dX8_hour_16 : decode cX8_hour 16 = .ok (.getfield 7, 3) := by decide +kernel
theorem dX8_hour_19 : decode cX8_hour 19 = .ok (.iconst 1, 1) := by decide +kernel
theorem dX8_hour_20 : decode cX8_hour 20 = .ok (.iaload, 1) := by decide +kernel
theorem dX8_hour_21 : decode cX8_hour 21 = .ok (.if_icmp .ge 31, 3) := by decide +kernel
theorem dX8_hour_24 : decode cX8_hour 24 = .ok (.aload_n 0, 1) := by decide +kernel
theorem dX8_hour_25 : decode cX8_hour 25 = .ok (.getfield 22, 3) := by decide +kernel
theorem dX8_hour_28 : decode cX8_hour 28 = .ok (.iload 5, 2) := by decide +kernel
theorem dX8_hour_30 : decode cX8_hour 30 = .ok (.iaload, 1) := by decide +kernel
theorem dX8_hour_31 : decode cX8_hour 31 = .ok (.iload_n 2, 1) := by decide +kernel
theorem dX8_hour_32 : decode cX8_hour 32 = .ok (.if_icmp .ne 14, 3) := by decide +kernel
theorem dX8_hour_35 : decode cX8_hour 35 = .ok (.aload_n 0, 1) := by decide +kernel
theorem dX8_hour_36 : decode cX8_hour 36 = .ok (.iload_n 1, 1) := by decide +kernel
theorem dX8_hour_37 : decode cX8_hour 37 = .ok (.iload 5, 2) := by decide +kernel
theorem dX8_hour_39 : decode cX8_hour 39 = .ok (.iload 4, 2) := by decide +kernel
theorem dX8_hour_41 : decode cX8_hour 41 = .ok (.invokevirtual 272, 3) := by decide +kernel
theorem dX8_hour_44 : decode cX8_hour 44 = .ok (.istore 4, 2) := by decide +kernel
theorem dX8_hour_46 : decode cX8_hour 46 = .ok (.iinc 5 1, 3) := by decide +kernel
theorem dX8_hour_49 : decode cX8_hour 49 = .ok (.goto (-36), 3) := by decide +kernel
theorem dX8_hour_52 : decode cX8_hour 52 = .ok (.iload_n 3, 1) := by decide +kernel
theorem dX8_hour_53 : decode cX8_hour 53 = .ok (.ireturn, 1) := by decide +kernel
theorem dX8_dusk_0 : decode cX8_dusk 0 = .ok (.iconst 0, 1) := by decide +kernel
theorem dX8_dusk_1 : decode cX8_dusk 1 = .ok (.istore_n 2, 1) := by decide +kernel
theorem dX8_dusk_2 : decode cX8_dusk 2 = .ok (.iconst 0, 1) := by decide +kernel
theorem dX8_dusk_3 : decode cX8_dusk 3 = .ok (.istore_n 3, 1) := by decide +kernel
theorem dX8_dusk_4 : decode cX8_dusk 4 = .ok (.iload_n 3, 1) := by decide +kernel
theorem dX8_dusk_5 : decode cX8_dusk 5 = .ok (.aload_n 0, 1) := by decide +kernel
theorem dX8_dusk_6 : decode cX8_dusk 6 = .ok (.getfield 7, 3) := by decide +kernel
theorem dX8_dusk_9 : decode cX8_dusk 9 = .ok (.iconst 2, 1) := by decide +kernel
theorem dX8_dusk_10 : decode cX8_dusk 10 = .ok (.iaload, 1) := by decide +kernel
theorem dX8_dusk_11 : decode cX8_dusk 11 = .ok (.if_icmp .ge 45, 3) := by decide +kernel
theorem dX8_dusk_14 : decode cX8_dusk 14 = .ok (.aload_n 0, 1) := by decide +kernel
theorem dX8_dusk_15 : decode cX8_dusk 15 = .ok (.getfield 68, 3) := by decide +kernel
theorem dX8_dusk_18 : decode cX8_dusk 18 = .ok (.bipush 12, 2) := by decide +kernel
theorem dX8_dusk_20 : decode cX8_dusk 20 = .ok (.iload_n 1, 1) := by decide +kernel
theorem dX8_dusk_21 : decode cX8_dusk 21 = .ok (.imul, 1) := by decide +kernel
theorem dX8_dusk_22 : decode cX8_dusk 22 = .ok (.iload_n 3, 1) := by decide +kernel
theorem dX8_dusk_23 : decode cX8_dusk 23 = .ok (.iadd, 1) := by decide +kernel
theorem dX8_dusk_24 : decode cX8_dusk 24 = .ok (.iaload, 1) := by decide +kernel
theorem dX8_dusk_25 : decode cX8_dusk 25 = .ok (.iconst 1, 1) := by decide +kernel
theorem dX8_dusk_26 : decode cX8_dusk 26 = .ok (.if_icmp .ne 24, 3) := by decide +kernel
theorem dX8_dusk_29 : decode cX8_dusk 29 = .ok (.aload_n 0, 1) := by decide +kernel
theorem dX8_dusk_30 : decode cX8_dusk 30 = .ok (.getfield 80, 3) := by decide +kernel
theorem dX8_dusk_33 : decode cX8_dusk 33 = .ok (.iload_n 3, 1) := by decide +kernel
theorem dX8_dusk_34 : decode cX8_dusk 34 = .ok (.baload, 1) := by decide +kernel
theorem dX8_dusk_35 : decode cX8_dusk 35 = .ok (.ifCond .eq 6, 3) := by decide +kernel
theorem dX8_dusk_38 : decode cX8_dusk 38 = .ok (.goto 12, 3) := by decide +kernel
theorem dX8_dusk_41 : decode cX8_dusk 41 = .ok (.aload_n 0, 1) := by decide +kernel
theorem dX8_dusk_42 : decode cX8_dusk 42 = .ok (.iload_n 1, 1) := by decide +kernel
theorem dX8_dusk_43 : decode cX8_dusk 43 = .ok (.iload_n 3, 1) := by decide +kernel
theorem dX8_dusk_44 : decode cX8_dusk 44 = .ok (.invokevirtual 265, 3) := by decide +kernel
theorem dX8_dusk_47 : decode cX8_dusk 47 = .ok (.iinc 2 1, 3) := by decide +kernel
theorem dX8_dusk_50 : decode cX8_dusk 50 = .ok (.iinc 3 1, 3) := by decide +kernel
theorem dX8_dusk_53 : decode cX8_dusk 53 = .ok (.goto (-49), 3) := by decide +kernel
theorem dX8_dusk_56 : decode cX8_dusk 56 = .ok (.iconst 0, 1) := by decide +kernel
theorem dX8_dusk_57 : decode cX8_dusk 57 = .ok (.istore_n 3, 1) := by decide +kernel
theorem dX8_dusk_58 : decode cX8_dusk 58 = .ok (.iload_n 3, 1) := by decide +kernel
theorem dX8_dusk_59 : decode cX8_dusk 59 = .ok (.aload_n 0, 1) := by decide +kernel
theorem dX8_dusk_60 : decode cX8_dusk 60 = .ok (.getfield 7, 3) := by decide +kernel
theorem dX8_dusk_63 : decode cX8_dusk 63 = .ok (.iconst 2, 1) := by decide +kernel
theorem dX8_dusk_64 : decode cX8_dusk 64 = .ok (.iaload, 1) := by decide +kernel
theorem dX8_dusk_65 : decode cX8_dusk 65 = .ok (.if_icmp .ge 45, 3) := by decide +kernel
theorem dX8_dusk_68 : decode cX8_dusk 68 = .ok (.aload_n 0, 1) := by decide +kernel
theorem dX8_dusk_69 : decode cX8_dusk 69 = .ok (.getfield 68, 3) := by decide +kernel
theorem dX8_dusk_72 : decode cX8_dusk 72 = .ok (.bipush 12, 2) := by decide +kernel
theorem dX8_dusk_74 : decode cX8_dusk 74 = .ok (.iload_n 1, 1) := by decide +kernel
theorem dX8_dusk_75 : decode cX8_dusk 75 = .ok (.imul, 1) := by decide +kernel
theorem dX8_dusk_76 : decode cX8_dusk 76 = .ok (.iload_n 3, 1) := by decide +kernel
theorem dX8_dusk_77 : decode cX8_dusk 77 = .ok (.iadd, 1) := by decide +kernel
theorem dX8_dusk_78 : decode cX8_dusk 78 = .ok (.iaload, 1) := by decide +kernel
theorem dX8_dusk_79 : decode cX8_dusk 79 = .ok (.iconst 1, 1) := by decide +kernel
theorem dX8_dusk_80 : decode cX8_dusk 80 = .ok (.if_icmp .ne 24, 3) := by decide +kernel
theorem dX8_dusk_83 : decode cX8_dusk 83 = .ok (.aload_n 0, 1) := by decide +kernel
theorem dX8_dusk_84 : decode cX8_dusk 84 = .ok (.iload_n 1, 1) := by decide +kernel
theorem dX8_dusk_85 : decode cX8_dusk 85 = .ok (.iload_n 3, 1) := by decide +kernel
theorem dX8_dusk_86 : decode cX8_dusk 86 = .ok (.invokevirtual 261, 3) := by decide +kernel
theorem dX8_dusk_89 : decode cX8_dusk 89 = .ok (.ifCond .eq 6, 3) := by decide +kernel
theorem dX8_dusk_92 : decode cX8_dusk 92 = .ok (.goto 12, 3) := by decide +kernel
theorem dX8_dusk_95 : decode cX8_dusk 95 = .ok (.aload_n 0, 1) := by decide +kernel
theorem dX8_dusk_96 : decode cX8_dusk 96 = .ok (.iload_n 1, 1) := by decide +kernel
theorem dX8_dusk_97 : decode cX8_dusk 97 = .ok (.iload_n 3, 1) := by decide +kernel
theorem dX8_dusk_98 : decode cX8_dusk 98 = .ok (.invokevirtual 265, 3) := by decide +kernel
theorem dX8_dusk_101 : decode cX8_dusk 101 = .ok (.iinc 2 1, 3) := by decide +kernel
theorem dX8_dusk_104 : decode cX8_dusk 104 = .ok (.iinc 3 1, 3) := by decide +kernel
theorem dX8_dusk_107 : decode cX8_dusk 107 = .ok (.goto (-49), 3) := by decide +kernel
theorem dX8_dusk_110 : decode cX8_dusk 110 = .ok (.iconst 0, 1) := by decide +kernel
theorem dX8_dusk_111 : decode cX8_dusk 111 = .ok (.istore_n 3, 1) := by decide +kernel
theorem dX8_dusk_112 : decode cX8_dusk 112 = .ok (.iload_n 3, 1) := by decide +kernel
theorem dX8_dusk_113 : decode cX8_dusk 113 = .ok (.aload_n 0, 1) := by decide +kernel
theorem dX8_dusk_114 : decode cX8_dusk 114 = .ok (.getfield 7, 3) := by decide +kernel
theorem dX8_dusk_117 : decode cX8_dusk 117 = .ok (.iconst 2, 1) := by decide +kernel
theorem dX8_dusk_118 : decode cX8_dusk 118 = .ok (.iaload, 1) := by decide +kernel
theorem dX8_dusk_119 : decode cX8_dusk 119 = .ok (.if_icmp .ge 31, 3) := by decide +kernel
theorem dX8_dusk_122 : decode cX8_dusk 122 = .ok (.aload_n 0, 1) := by decide +kernel
theorem dX8_dusk_123 : decode cX8_dusk 123 = .ok (.getfield 74, 3) := by decide +kernel
theorem dX8_dusk_126 : decode cX8_dusk 126 = .ok (.bipush 12, 2) := by decide +kernel
theorem dX8_dusk_128 : decode cX8_dusk 128 = .ok (.iload_n 1, 1) := by decide +kernel
theorem dX8_dusk_129 : decode cX8_dusk 129 = .ok (.imul, 1) := by decide +kernel
theorem dX8_dusk_130 : decode cX8_dusk 130 = .ok (.iload_n 3, 1) := by decide +kernel
theorem dX8_dusk_131 : decode cX8_dusk 131 = .ok (.iadd, 1) := by decide +kernel
theorem dX8_dusk_132 : decode cX8_dusk 132 = .ok (.aload_n 0, 1) := by decide +kernel
theorem dX8_dusk_133 : decode cX8_dusk 133 = .ok (.getfield 77, 3) := by decide +kernel
theorem dX8_dusk_136 : decode cX8_dusk 136 = .ok (.bipush 12, 2) := by decide +kernel
theorem dX8_dusk_138 : decode cX8_dusk 138 = .ok (.iload_n 1, 1) := by decide +kernel
theorem dX8_dusk_139 : decode cX8_dusk 139 = .ok (.imul, 1) := by decide +kernel
theorem dX8_dusk_140 : decode cX8_dusk 140 = .ok (.iload_n 3, 1) := by decide +kernel
theorem dX8_dusk_141 : decode cX8_dusk 141 = .ok (.iadd, 1) := by decide +kernel
theorem dX8_dusk_142 : decode cX8_dusk 142 = .ok (.iaload, 1) := by decide +kernel
theorem dX8_dusk_143 : decode cX8_dusk 143 = .ok (.iastore, 1) := by decide +kernel
theorem dX8_dusk_144 : decode cX8_dusk 144 = .ok (.iinc 3 1, 3) := by decide +kernel
theorem dX8_dusk_147 : decode cX8_dusk 147 = .ok (.goto (-35), 3) := by decide +kernel
theorem dX8_dusk_150 : decode cX8_dusk 150 = .ok (.aload_n 0, 1) := by decide +kernel
theorem dX8_dusk_151 : decode cX8_dusk 151 = .ok (.getfield 62, 3) := by decide +kernel
theorem dX8_dusk_154 : decode cX8_dusk 154 = .ok (.iload_n 1, 1) := by decide +kernel
theorem dX8_dusk_155 : decode cX8_dusk 155 = .ok (.dup2, 1) := by decide +kernel
theorem dX8_dusk_156 : decode cX8_dusk 156 = .ok (.iaload, 1) := by decide +kernel
theorem dX8_dusk_157 : decode cX8_dusk 157 = .ok (.iconst 1, 1) := by decide +kernel
theorem dX8_dusk_158 : decode cX8_dusk 158 = .ok (.iadd, 1) := by decide +kernel
theorem dX8_dusk_159 : decode cX8_dusk 159 = .ok (.iastore, 1) := by decide +kernel
theorem dX8_dusk_160 : decode cX8_dusk 160 = .ok (.iload_n 2, 1) := by decide +kernel
theorem dX8_dusk_161 : decode cX8_dusk 161 = .ok (.ireturn, 1) := by decide +kernel
theorem dX8_goOn_0 : decode cX8_goOn 0 = .ok (.aload_n 0, 1) := by decide +kernel
theorem dX8_goOn_1 : decode cX8_goOn 1 = .ok (.iload_n 1, 1) := by decide +kernel
theorem dX8_goOn_2 : decode cX8_goOn 2 = .ok (.invokevirtual 276, 3) := by decide +kernel
theorem dX8_goOn_5 : decode cX8_goOn 5 = .ok (.iconst 0, 1) := by decide +kernel
theorem dX8_goOn_6 : decode cX8_goOn 6 = .ok (.istore_n 2, 1) := by decide +kernel
theorem dX8_goOn_7 : decode cX8_goOn 7 = .ok (.iconst 0, 1) := by decide +kernel
theorem dX8_goOn_8 : decode cX8_goOn 8 = .ok (.istore_n 3, 1) := by decide +kernel
theorem dX8_goOn_9 : decode cX8_goOn 9 = .ok (.iload_n 3, 1) := by decide +kernel
theorem dX8_goOn_10 : decode cX8_goOn 10 = .ok (.bipush 12, 2) := by decide +kernel
theorem dX8_goOn_12 : decode cX8_goOn 12 = .ok (.if_icmp .ge 18, 3) := by decide +kernel
theorem dX8_goOn_15 : decode cX8_goOn 15 = .ok (.iload_n 2, 1) := by decide +kernel
theorem dX8_goOn_16 : decode cX8_goOn 16 = .ok (.aload_n 0, 1) := by decide +kernel
theorem dX8_goOn_17 : decode cX8_goOn 17 = .ok (.iload_n 1, 1) := by decide +kernel
theorem dX8_goOn_18 : decode cX8_goOn 18 = .ok (.iload_n 3, 1) := by decide +kernel
theorem dX8_goOn_19 : decode cX8_goOn 19 = .ok (.invokevirtual 279, 3) := by decide +kernel
theorem dX8_goOn_22 : decode cX8_goOn 22 = .ok (.iadd, 1) := by decide +kernel
theorem dX8_goOn_23 : decode cX8_goOn 23 = .ok (.istore_n 2, 1) := by decide +kernel
theorem dX8_goOn_24 : decode cX8_goOn 24 = .ok (.iinc 3 1, 3) := by decide +kernel
theorem dX8_goOn_27 : decode cX8_goOn 27 = .ok (.goto (-18), 3) := by decide +kernel
theorem dX8_goOn_30 : decode cX8_goOn 30 = .ok (.iload_n 2, 1) := by decide +kernel
theorem dX8_goOn_31 : decode cX8_goOn 31 = .ok (.aload_n 0, 1) := by decide +kernel
theorem dX8_goOn_32 : decode cX8_goOn 32 = .ok (.iload_n 1, 1) := by decide +kernel
theorem dX8_goOn_33 : decode cX8_goOn 33 = .ok (.invokevirtual 282, 3) := by decide +kernel
theorem dX8_goOn_36 : decode cX8_goOn 36 = .ok (.iadd, 1) := by decide +kernel
theorem dX8_goOn_37 : decode cX8_goOn 37 = .ok (.ireturn, 1) := by decide +kernel
theorem dX8_say_0 : decode cX8_say 0 = .ok (.aload_n 0, 1) := by decide +kernel
theorem dX8_say_1 : decode cX8_say 1 = .ok (.iconst 0, 1) := by decide +kernel
theorem dX8_say_2 : decode cX8_say 2 = .ok (.putfield 128, 3) := by decide +kernel
theorem dX8_say_5 : decode cX8_say 5 = .ok (.aload_n 0, 1) := by decide +kernel
theorem dX8_say_6 : decode cX8_say 6 = .ok (.iload_n 2, 1) := by decide +kernel
theorem dX8_say_7 : decode cX8_say 7 = .ok (.invokevirtual 255, 3) := by decide +kernel
theorem dX8_say_10 : decode cX8_say 10 = .ok (.ifCond .eq 12, 3) := by decide +kernel
theorem dX8_say_13 : decode cX8_say 13 = .ok (.aload_n 0, 1) := by decide +kernel
theorem dX8_say_14 : decode cX8_say 14 = .ok (.iload 4, 2) := by decide +kernel
theorem dX8_say_16 : decode cX8_say 16 = .ok (.invokevirtual 258, 3) := by decide +kernel
theorem dX8_say_19 : decode cX8_say 19 = .ok (.ifCond .ne 9, 3) := by decide +kernel
theorem dX8_say_22 : decode cX8_say 22 = .ok (.aload_n 0, 1) := by decide +kernel
theorem dX8_say_23 : decode cX8_say 23 = .ok (.iconst 1, 1) := by decide +kernel
theorem dX8_say_24 : decode cX8_say 24 = .ok (.invokevirtual 232, 3) := by decide +kernel
theorem dX8_say_27 : decode cX8_say 27 = .ok (.ireturn, 1) := by decide +kernel
theorem dX8_say_28 : decode cX8_say 28 = .ok (.aload_n 0, 1) := by decide +kernel
theorem dX8_say_29 : decode cX8_say 29 = .ok (.getfield 242, 3) := by decide +kernel
theorem dX8_say_32 : decode cX8_say 32 = .ok (.bipush 60, 2) := by decide +kernel
theorem dX8_say_34 : decode cX8_say 34 = .ok (.if_icmp .eq 22, 3) := by decide +kernel
theorem dX8_say_37 : decode cX8_say 37 = .ok (.iload_n 1, 1) := by decide +kernel
theorem dX8_say_38 : decode cX8_say 38 = .ok (.iconst (-1), 1) := by decide +kernel
theorem dX8_say_39 : decode cX8_say 39 = .ok (.bipush 99, 2) := by decide +kernel
theorem dX8_say_41 : decode cX8_say 41 = .ok (.invokestatic 131, 3) := by decide +kernel
theorem dX8_say_44 : decode cX8_say 44 = .ok (.ifCond .eq 12, 3) := by decide +kernel
theorem dX8_say_47 : decode cX8_say 47 = .ok (.iload_n 3, 1) := by decide +kernel
theorem dX8_say_48 : decode cX8_say 48 = .ok (.iconst 0, 1) := by decide +kernel
theorem dX8_say_49 : decode cX8_say 49 = .ok (.iconst 1, 1) := by decide +kernel
theorem dX8_say_50 : decode cX8_say 50 = .ok (.invokestatic 131, 3) := by decide +kernel
theorem dX8_say_53 : decode cX8_say 53 = .ok (.ifCond .ne 15, 3) := by decide +kernel
theorem dX8_say_56 : decode cX8_say 56 = .ok (.aload_n 0, 1) := by decide +kernel
theorem dX8_say_57 : decode cX8_say 57 = .ok (.getfield 52, 3) := by decide +kernel
theorem dX8_say_60 : decode cX8_say 60 = .ok (.iconst 1, 1) := by decide +kernel
theorem dX8_say_61 : decode cX8_say 61 = .ok (.dup2, 1) := by decide +kernel
theorem dX8_say_62 : decode cX8_say 62 = .ok (.iaload, 1) := by decide +kernel
theorem dX8_say_63 : decode cX8_say 63 = .ok (.iconst 1, 1) := by decide +kernel
theorem dX8_say_64 : decode cX8_say 64 = .ok (.iadd, 1) := by decide +kernel
theorem dX8_say_65 : decode cX8_say 65 = .ok (.iastore, 1) := by decide +kernel
theorem dX8_say_66 : decode cX8_say 66 = .ok (.iconst (-1), 1) := by decide +kernel
theorem dX8_say_67 : decode cX8_say 67 = .ok (.ireturn, 1) := by decide +kernel
theorem dX8_say_68 : decode cX8_say 68 = .ok (.aload_n 0, 1) := by decide +kernel
theorem dX8_say_69 : decode cX8_say 69 = .ok (.getfield 40, 3) := by decide +kernel
theorem dX8_say_72 : decode cX8_say 72 = .ok (.aload_n 0, 1) := by decide +kernel
theorem dX8_say_73 : decode cX8_say 73 = .ok (.getfield 242, 3) := by decide +kernel
theorem dX8_say_76 : decode cX8_say 76 = .ok (.iload_n 1, 1) := by decide +kernel
theorem dX8_say_77 : decode cX8_say 77 = .ok (.iastore, 1) := by decide +kernel
theorem dX8_say_78 : decode cX8_say 78 = .ok (.aload_n 0, 1) := by decide +kernel
theorem dX8_say_79 : decode cX8_say 79 = .ok (.getfield 43, 3) := by decide +kernel
theorem dX8_say_82 : decode cX8_say 82 = .ok (.aload_n 0, 1) := by decide +kernel
theorem dX8_say_83 : decode cX8_say 83 = .ok (.getfield 242, 3) := by decide +kernel
theorem dX8_say_86 : decode cX8_say 86 = .ok (.iload_n 2, 1) := by decide +kernel
theorem dX8_say_87 : decode cX8_say 87 = .ok (.iastore, 1) := by decide +kernel
theorem dX8_say_88 : decode cX8_say 88 = .ok (.aload_n 0, 1) := by decide +kernel
theorem dX8_say_89 : decode cX8_say 89 = .ok (.getfield 46, 3) := by decide +kernel
theorem dX8_say_92 : decode cX8_say 92 = .ok (.aload_n 0, 1) := by decide +kernel
theorem dX8_say_93 : decode cX8_say 93 = .ok (.getfield 242, 3) := by decide +kernel
theorem dX8_say_96 : decode cX8_say 96 = .ok (.iload_n 3, 1) := by decide +kernel
theorem dX8_say_97 : decode cX8_say 97 = .ok (.iastore, 1) := by decide +kernel
theorem dX8_say_98 : decode cX8_say 98 = .ok (.aload_n 0, 1) := by decide +kernel
theorem dX8_say_99 : decode cX8_say 99 = .ok (.getfield 49, 3) := by decide +kernel
theorem dX8_say_102 : decode cX8_say 102 = .ok (.aload_n 0, 1) := by decide +kernel
theorem dX8_say_103 : decode cX8_say 103 = .ok (.getfield 242, 3) := by decide +kernel
theorem dX8_say_106 : decode cX8_say 106 = .ok (.iload 4, 2) := by decide +kernel
theorem dX8_say_108 : decode cX8_say 108 = .ok (.iastore, 1) := by decide +kernel
theorem dX8_say_109 : decode cX8_say 109 = .ok (.aload_n 0, 1) := by decide +kernel
theorem dX8_say_110 : decode cX8_say 110 = .ok (.dup, 1) := by decide +kernel
theorem dX8_say_111 : decode cX8_say 111 = .ok (.getfield 242, 3) := by decide +kernel
theorem dX8_say_114 : decode cX8_say 114 = .ok (.iconst 1, 1) := by decide +kernel
theorem dX8_say_115 : decode cX8_say 115 = .ok (.iadd, 1) := by decide +kernel
theorem dX8_say_116 : decode cX8_say 116 = .ok (.putfield 242, 3) := by decide +kernel
theorem dX8_say_119 : decode cX8_say 119 = .ok (.aload_n 0, 1) := by decide +kernel
theorem dX8_say_120 : decode cX8_say 120 = .ok (.getfield 242, 3) := by decide +kernel
theorem dX8_say_123 : decode cX8_say 123 = .ok (.ireturn, 1) := by decide +kernel
theorem dX8_unsay_0 : decode cX8_unsay 0 = .ok (.aload_n 0, 1) := by decide +kernel
theorem dX8_unsay_1 : decode cX8_unsay 1 = .ok (.iconst 0, 1) := by decide +kernel
theorem dX8_unsay_2 : decode cX8_unsay 2 = .ok (.putfield 128, 3) := by decide +kernel
theorem dX8_unsay_5 : decode cX8_unsay 5 = .ok (.aload_n 0, 1) := by decide +kernel
theorem dX8_unsay_6 : decode cX8_unsay 6 = .ok (.getfield 242, 3) := by decide +kernel
theorem dX8_unsay_9 : decode cX8_unsay 9 = .ok (.ifCond .ne 5, 3) := by decide +kernel
theorem dX8_unsay_12 : decode cX8_unsay 12 = .ok (.iconst (-1), 1) := by decide +kernel
theorem dX8_unsay_13 : decode cX8_unsay 13 = .ok (.ireturn, 1) := by decide +kernel
theorem dX8_unsay_14 : decode cX8_unsay 14 = .ok (.aload_n 0, 1) := by decide +kernel
theorem dX8_unsay_15 : decode cX8_unsay 15 = .ok (.dup, 1) := by decide +kernel
theorem dX8_unsay_16 : decode cX8_unsay 16 = .ok (.getfield 242, 3) := by decide +kernel
theorem dX8_unsay_19 : decode cX8_unsay 19 = .ok (.iconst 1, 1) := by decide +kernel
theorem dX8_unsay_20 : decode cX8_unsay 20 = .ok (.isub, 1) := by decide +kernel
theorem dX8_unsay_21 : decode cX8_unsay 21 = .ok (.putfield 242, 3) := by decide +kernel
theorem dX8_unsay_24 : decode cX8_unsay 24 = .ok (.aload_n 0, 1) := by decide +kernel
theorem dX8_unsay_25 : decode cX8_unsay 25 = .ok (.getfield 242, 3) := by decide +kernel
theorem dX8_unsay_28 : decode cX8_unsay 28 = .ok (.ireturn, 1) := by decide +kernel
theorem dX8_days_0 : decode cX8_days 0 = .ok (.aload_n 0, 1) := by decide +kernel
theorem dX8_days_1 : decode cX8_days 1 = .ok (.iconst 0, 1) := by decide +kernel
theorem dX8_days_2 : decode cX8_days 2 = .ok (.putfield 128, 3) := by decide +kernel
theorem dX8_days_5 : decode cX8_days 5 = .ok (.iload_n 1, 1) := by decide +kernel
theorem dX8_days_6 : decode cX8_days 6 = .ok (.iconst 0, 1) := by decide +kernel
theorem dX8_days_7 : decode cX8_days 7 = .ok (.bipush 100, 2) := by decide +kernel
theorem dX8_days_9 : decode cX8_days 9 = .ok (.invokestatic 131, 3) := by decide +kernel
theorem dX8_days_12 : decode cX8_days 12 = .ok (.ifCond .ne 9, 3) := by decide +kernel
theorem dX8_days_15 : decode cX8_days 15 = .ok (.aload_n 0, 1) := by decide +kernel
theorem dX8_days_16 : decode cX8_days 16 = .ok (.iconst 1, 1) := by decide +kernel
theorem dX8_days_17 : decode cX8_days 17 = .ok (.invokevirtual 232, 3) := by decide +kernel
theorem dX8_days_20 : decode cX8_days 20 = .ok (.ireturn, 1) := by decide +kernel
theorem dX8_days_21 : decode cX8_days 21 = .ok (.iconst 0, 1) := by decide +kernel
theorem dX8_days_22 : decode cX8_days 22 = .ok (.istore_n 2, 1) := by decide +kernel
theorem dX8_days_23 : decode cX8_days 23 = .ok (.iconst 0, 1) := by decide +kernel
theorem dX8_days_24 : decode cX8_days 24 = .ok (.istore_n 3, 1) := by decide +kernel
theorem dX8_days_25 : decode cX8_days 25 = .ok (.iload_n 3, 1) := by decide +kernel
theorem dX8_days_26 : decode cX8_days 26 = .ok (.iload_n 1, 1) := by decide +kernel
theorem dX8_days_27 : decode cX8_days 27 = .ok (.if_icmp .ge 17, 3) := by decide +kernel
theorem dX8_days_30 : decode cX8_days 30 = .ok (.iload_n 2, 1) := by decide +kernel
theorem dX8_days_31 : decode cX8_days 31 = .ok (.aload_n 0, 1) := by decide +kernel
theorem dX8_days_32 : decode cX8_days 32 = .ok (.iconst 0, 1) := by decide +kernel
theorem dX8_days_33 : decode cX8_days 33 = .ok (.invokevirtual 285, 3) := by decide +kernel
theorem dX8_days_36 : decode cX8_days 36 = .ok (.iadd, 1) := by decide +kernel
theorem dX8_days_37 : decode cX8_days 37 = .ok (.istore_n 2, 1) := by decide +kernel
theorem dX8_days_38 : decode cX8_days 38 = .ok (.iinc 3 1, 3) := by decide +kernel
theorem dX8_days_41 : decode cX8_days 41 = .ok (.goto (-16), 3) := by decide +kernel
theorem dX8_days_44 : decode cX8_days 44 = .ok (.iload_n 2, 1) := by decide +kernel
theorem dX8_days_45 : decode cX8_days 45 = .ok (.ireturn, 1) := by decide +kernel
theorem dX8_tellOrder_0 : decode cX8_tellOrder 0 = .ok (.iconst 0, 1) := by decide +kernel
theorem dX8_tellOrder_1 : decode cX8_tellOrder 1 = .ok (.istore_n 1, 1) := by decide +kernel
theorem dX8_tellOrder_2 : decode cX8_tellOrder 2 = .ok (.iconst 0, 1) := by decide +kernel
theorem dX8_tellOrder_3 : decode cX8_tellOrder 3 = .ok (.istore_n 2, 1) := by decide +kernel
theorem dX8_tellOrder_4 : decode cX8_tellOrder 4 = .ok (.iload_n 2, 1) := by decide +kernel
theorem dX8_tellOrder_5 : decode cX8_tellOrder 5 = .ok (.bipush 12, 2) := by decide +kernel
theorem dX8_tellOrder_7 : decode cX8_tellOrder 7 = .ok (.if_icmp .ge 50, 3) := by decide +kernel
theorem dX8_tellOrder_10 : decode cX8_tellOrder 10 = .ok (.iconst 0, 1) := by decide +kernel
theorem dX8_tellOrder_11 : decode cX8_tellOrder 11 = .ok (.istore_n 3, 1) := by decide +kernel
theorem dX8_tellOrder_12 : decode cX8_tellOrder 12 = .ok (.iload_n 3, 1) := by decide +kernel
theorem dX8_tellOrder_13 : decode cX8_tellOrder 13 = .ok (.aload_n 0, 1) := by decide +kernel
theorem dX8_tellOrder_14 : decode cX8_tellOrder 14 = .ok (.getfield 7, 3) := by decide +kernel
theorem dX8_tellOrder_17 : decode cX8_tellOrder 17 = .ok (.iconst 1, 1) := by decide +kernel
theorem dX8_tellOrder_18 : decode cX8_tellOrder 18 = .ok (.iaload, 1) := by decide +kernel
theorem dX8_tellOrder_19 : decode cX8_tellOrder 19 = .ok (.if_icmp .ge 32, 3) := by decide +kernel
theorem dX8_tellOrder_22 : decode cX8_tellOrder 22 = .ok (.aload_n 0, 1) := by decide +kernel
theorem dX8_tellOrder_23 : decode cX8_tellOrder 23 = .ok (.getfield 22, 3) := by decide +kernel
theorem dX8_tellOrder_26 : decode cX8_tellOrder 26 = .ok (.iload_n 3, 1) := by decide +kernel
theorem dX8_tellOrder_27 : decode cX8_tellOrder 27 = .ok (.iaload, 1) := by decide +kernel
theorem dX8_tellOrder_28 : decode cX8_tellOrder 28 = .ok (.iload_n 2, 1) := by decide +kernel
theorem dX8_tellOrder_29 : decode cX8_tellOrder 29 = .ok (.if_icmp .eq 6, 3) := by decide +kernel
theorem dX8_tellOrder_32 : decode cX8_tellOrder 32 = .ok (.goto 13, 3) := by decide +kernel
theorem dX8_tellOrder_35 : decode cX8_tellOrder 35 = .ok (.aload_n 0, 1) := by decide +kernel
theorem dX8_tellOrder_36 : decode cX8_tellOrder 36 = .ok (.getfield 84, 3) := by decide +kernel
theorem dX8_tellOrder_39 : decode cX8_tellOrder 39 = .ok (.iload_n 1, 1) := by decide +kernel
theorem dX8_tellOrder_40 : decode cX8_tellOrder 40 = .ok (.iload_n 3, 1) := by decide +kernel
theorem dX8_tellOrder_41 : decode cX8_tellOrder 41 = .ok (.iastore, 1) := by decide +kernel
theorem dX8_tellOrder_42 : decode cX8_tellOrder 42 = .ok (.iinc 1 1, 3) := by decide +kernel
theorem dX8_tellOrder_45 : decode cX8_tellOrder 45 = .ok (.iinc 3 1, 3) := by decide +kernel
theorem dX8_tellOrder_48 : decode cX8_tellOrder 48 = .ok (.goto (-36), 3) := by decide +kernel
theorem dX8_tellOrder_51 : decode cX8_tellOrder 51 = .ok (.iinc 2 1, 3) := by decide +kernel
theorem dX8_tellOrder_54 : decode cX8_tellOrder 54 = .ok (.goto (-50), 3) := by decide +kernel
theorem dX8_tellOrder_57 : decode cX8_tellOrder 57 = .ok (.return_, 1) := by decide +kernel
theorem dX8_cellOf_0 : decode cX8_cellOf 0 = .ok (.iload_n 0, 1) := by decide +kernel
theorem dX8_cellOf_1 : decode cX8_cellOf 1 = .ok (.bipush 64, 2) := by decide +kernel
theorem dX8_cellOf_3 : decode cX8_cellOf 3 = .ok (.imul, 1) := by decide +kernel
theorem dX8_cellOf_4 : decode cX8_cellOf 4 = .ok (.iload_n 1, 1) := by decide +kernel
theorem dX8_cellOf_5 : decode cX8_cellOf 5 = .ok (.iadd, 1) := by decide +kernel
theorem dX8_cellOf_6 : decode cX8_cellOf 6 = .ok (.bipush 64, 2) := by decide +kernel
theorem dX8_cellOf_8 : decode cX8_cellOf 8 = .ok (.imul, 1) := by decide +kernel
theorem dX8_cellOf_9 : decode cX8_cellOf 9 = .ok (.iload_n 2, 1) := by decide +kernel
theorem dX8_cellOf_10 : decode cX8_cellOf 10 = .ok (.iadd, 1) := by decide +kernel
theorem dX8_cellOf_11 : decode cX8_cellOf 11 = .ok (.iconst 2, 1) := by decide +kernel
theorem dX8_cellOf_12 : decode cX8_cellOf 12 = .ok (.imul, 1) := by decide +kernel
theorem dX8_cellOf_13 : decode cX8_cellOf 13 = .ok (.iload_n 3, 1) := by decide +kernel
theorem dX8_cellOf_14 : decode cX8_cellOf 14 = .ok (.iadd, 1) := by decide +kernel
theorem dX8_cellOf_15 : decode cX8_cellOf 15 = .ok (.ireturn, 1) := by decide +kernel
theorem dX8_spokeAt_0 : decode cX8_spokeAt 0 = .ok (.iload_n 1, 1) := by decide +kernel
theorem dX8_spokeAt_1 : decode cX8_spokeAt 1 = .ok (.ifCond .le 44, 3) := by decide +kernel
theorem dX8_spokeAt_4 : decode cX8_spokeAt 4 = .ok (.iload_n 1, 1) := by decide +kernel
theorem dX8_spokeAt_5 : decode cX8_spokeAt 5 = .ok (.aload_n 0, 1) := by decide +kernel
theorem dX8_spokeAt_6 : decode cX8_spokeAt 6 = .ok (.getfield 7, 3) := by decide +kernel
theorem dX8_spokeAt_9 : decode cX8_spokeAt 9 = .ok (.iconst 1, 1) := by decide +kernel
theorem dX8_spokeAt_10 : decode cX8_spokeAt 10 = .ok (.iaload, 1) := by decide +kernel
theorem dX8_spokeAt_11 : decode cX8_spokeAt 11 = .ok (.if_icmp .ge 34, 3) := by decide +kernel
theorem dX8_spokeAt_14 : decode cX8_spokeAt 14 = .ok (.aload_n 0, 1) := by decide +kernel
theorem dX8_spokeAt_15 : decode cX8_spokeAt 15 = .ok (.getfield 22, 3) := by decide +kernel
theorem dX8_spokeAt_18 : decode cX8_spokeAt 18 = .ok (.aload_n 0, 1) := by decide +kernel
theorem dX8_spokeAt_19 : decode cX8_spokeAt 19 = .ok (.getfield 84, 3) := by decide +kernel
theorem dX8_spokeAt_22 : decode cX8_spokeAt 22 = .ok (.iload_n 1, 1) := by decide +kernel
theorem dX8_spokeAt_23 : decode cX8_spokeAt 23 = .ok (.iaload, 1) := by decide +kernel
theorem dX8_spokeAt_24 : decode cX8_spokeAt 24 = .ok (.iaload, 1) := by decide +kernel
theorem dX8_spokeAt_25 : decode cX8_spokeAt 25 = .ok (.aload_n 0, 1) := by decide +kernel
theorem dX8_spokeAt_26 : decode cX8_spokeAt 26 = .ok (.getfield 22, 3) := by decide +kernel
theorem dX8_spokeAt_29 : decode cX8_spokeAt 29 = .ok (.aload_n 0, 1) := by decide +kernel
theorem dX8_spokeAt_30 : decode cX8_spokeAt 30 = .ok (.getfield 84, 3) := by decide +kernel
theorem dX8_spokeAt_33 : decode cX8_spokeAt 33 = .ok (.iload_n 1, 1) := by decide +kernel
theorem dX8_spokeAt_34 : decode cX8_spokeAt 34 = .ok (.iconst 1, 1) := by decide +kernel
theorem dX8_spokeAt_35 : decode cX8_spokeAt 35 = .ok (.isub, 1) := by decide +kernel
theorem dX8_spokeAt_36 : decode cX8_spokeAt 36 = .ok (.iaload, 1) := by decide +kernel
theorem dX8_spokeAt_37 : decode cX8_spokeAt 37 = .ok (.iaload, 1) := by decide +kernel
theorem dX8_spokeAt_38 : decode cX8_spokeAt 38 = .ok (.if_icmp .ne 7, 3) := by decide +kernel
theorem dX8_spokeAt_41 : decode cX8_spokeAt 41 = .ok (.iload_n 2, 1) := by decide +kernel
theorem dX8_spokeAt_42 : decode cX8_spokeAt 42 = .ok (.goto 4, 3) := by decide +kernel
theorem dX8_spokeAt_45 : decode cX8_spokeAt 45 = .ok (.iconst 0, 1) := by decide +kernel
theorem dX8_spokeAt_46 : decode cX8_spokeAt 46 = .ok (.ireturn, 1) := by decide +kernel
theorem dX8_byDoing_0 : decode cX8_byDoing 0 = .ok (.aload_n 0, 1) := by decide +kernel
theorem dX8_byDoing_1 : decode cX8_byDoing 1 = .ok (.getfield 84, 3) := by decide +kernel
theorem dX8_byDoing_4 : decode cX8_byDoing 4 = .ok (.iload_n 1, 1) := by decide +kernel
theorem dX8_byDoing_5 : decode cX8_byDoing 5 = .ok (.iaload, 1) := by decide +kernel
theorem dX8_byDoing_6 : decode cX8_byDoing 6 = .ok (.istore 6, 2) := by decide +kernel
theorem dX8_byDoing_8 : decode cX8_byDoing 8 = .ok (.iload 5, 2) := by decide +kernel
theorem dX8_byDoing_10 : decode cX8_byDoing 10 = .ok (.ifCond .ne 26, 3) := by decide +kernel
theorem dX8_byDoing_13 : decode cX8_byDoing 13 = .ok (.aload_n 0, 1) := by decide +kernel
theorem dX8_byDoing_14 : decode cX8_byDoing 14 = .ok (.getfield 100, 3) := by decide +kernel
theorem dX8_byDoing_17 : decode cX8_byDoing 17 = .ok (.iload_n 1, 1) := by decide +kernel
theorem dX8_byDoing_18 : decode cX8_byDoing 18 = .ok (.iconst 1, 1) := by decide +kernel
theorem dX8_byDoing_19 : decode cX8_byDoing 19 = .ok (.iadd, 1) := by decide +kernel
theorem dX8_byDoing_20 : decode cX8_byDoing 20 = .ok (.iload_n 2, 1) := by decide +kernel
theorem dX8_byDoing_21 : decode cX8_byDoing 21 = .ok (.aload_n 0, 1) := by decide +kernel
theorem dX8_byDoing_22 : decode cX8_byDoing 22 = .ok (.iload_n 1, 1) := by decide +kernel
theorem dX8_byDoing_23 : decode cX8_byDoing 23 = .ok (.iconst 1, 1) := by decide +kernel
theorem dX8_byDoing_24 : decode cX8_byDoing 24 = .ok (.iadd, 1) := by decide +kernel
theorem dX8_byDoing_25 : decode cX8_byDoing 25 = .ok (.iload_n 3, 1) := by decide +kernel
theorem dX8_byDoing_26 : decode cX8_byDoing 26 = .ok (.invokevirtual 288, 3) := by decide +kernel
theorem dX8_byDoing_29 : decode cX8_byDoing 29 = .ok (.iload 4, 2) := by decide +kernel
theorem dX8_byDoing_31 : decode cX8_byDoing 31 = .ok (.invokestatic 291, 3) := by decide +kernel
theorem dX8_byDoing_34 : decode cX8_byDoing 34 = .ok (.iaload, 1) := by decide +kernel
theorem dX8_byDoing_35 : decode cX8_byDoing 35 = .ok (.ireturn, 1) := by decide +kernel
theorem dX8_byDoing_36 : decode cX8_byDoing 36 = .ok (.iload 5, 2) := by decide +kernel
theorem dX8_byDoing_38 : decode cX8_byDoing 38 = .ok (.iconst 1, 1) := by decide +kernel
theorem dX8_byDoing_39 : decode cX8_byDoing 39 = .ok (.if_icmp .ne 13, 3) := by decide +kernel
theorem dX8_byDoing_42 : decode cX8_byDoing 42 = .ok (.aload_n 0, 1) := by decide +kernel
theorem dX8_byDoing_43 : decode cX8_byDoing 43 = .ok (.getfield 16, 3) := by decide +kernel
theorem dX8_byDoing_46 : decode cX8_byDoing 46 = .ok (.iload 6, 2) := by decide +kernel
theorem dX8_byDoing_48 : decode cX8_byDoing 48 = .ok (.iaload, 1) := by decide +kernel
theorem dX8_byDoing_49 : decode cX8_byDoing 49 = .ok (.goto 10, 3) := by decide +kernel
theorem dX8_byDoing_52 : decode cX8_byDoing 52 = .ok (.aload_n 0, 1) := by decide +kernel
theorem dX8_byDoing_53 : decode cX8_byDoing 53 = .ok (.getfield 19, 3) := by decide +kernel
theorem dX8_byDoing_56 : decode cX8_byDoing 56 = .ok (.iload 6, 2) := by decide +kernel
theorem dX8_byDoing_58 : decode cX8_byDoing 58 = .ok (.iaload, 1) := by decide +kernel
theorem dX8_byDoing_59 : decode cX8_byDoing 59 = .ok (.istore 7, 2) := by decide +kernel
theorem dX8_byDoing_61 : decode cX8_byDoing 61 = .ok (.iload 5, 2) := by decide +kernel
theorem dX8_byDoing_63 : decode cX8_byDoing 63 = .ok (.iconst 1, 1) := by decide +kernel
theorem dX8_byDoing_64 : decode cX8_byDoing 64 = .ok (.if_icmp .ne 13, 3) := by decide +kernel
theorem dX8_byDoing_67 : decode cX8_byDoing 67 = .ok (.aload_n 0, 1) := by decide +kernel
theorem dX8_byDoing_68 : decode cX8_byDoing 68 = .ok (.getfield 19, 3) := by decide +kernel
theorem dX8_byDoing_71 : decode cX8_byDoing 71 = .ok (.iload 6, 2) := by decide +kernel
theorem dX8_byDoing_73 : decode cX8_byDoing 73 = .ok (.iaload, 1) := by decide +kernel
theorem dX8_byDoing_74 : decode cX8_byDoing 74 = .ok (.goto 10, 3) := by decide +kernel
theorem dX8_byDoing_77 : decode cX8_byDoing 77 = .ok (.aload_n 0, 1) := by decide +kernel
theorem dX8_byDoing_78 : decode cX8_byDoing 78 = .ok (.getfield 16, 3) := by decide +kernel
theorem dX8_byDoing_81 : decode cX8_byDoing 81 = .ok (.iload 6, 2) := by decide +kernel
theorem dX8_byDoing_83 : decode cX8_byDoing 83 = .ok (.iaload, 1) := by decide +kernel
theorem dX8_byDoing_84 : decode cX8_byDoing 84 = .ok (.istore 8, 2) := by decide +kernel
theorem dX8_byDoing_86 : decode cX8_byDoing 86 = .ok (.iload_n 3, 1) := by decide +kernel
theorem dX8_byDoing_87 : decode cX8_byDoing 87 = .ok (.aload_n 0, 1) := by decide +kernel
theorem dX8_byDoing_88 : decode cX8_byDoing 88 = .ok (.getfield 295, 3) := by decide +kernel
theorem dX8_byDoing_91 : decode cX8_byDoing 91 = .ok (.ior, 1) := by decide +kernel
theorem dX8_byDoing_92 : decode cX8_byDoing 92 = .ok (.iload 7, 2) := by decide +kernel
theorem dX8_byDoing_94 : decode cX8_byDoing 94 = .ok (.ishr, 1) := by decide +kernel
theorem dX8_byDoing_95 : decode cX8_byDoing 95 = .ok (.iconst 1, 1) := by decide +kernel
theorem dX8_byDoing_96 : decode cX8_byDoing 96 = .ok (.iand, 1) := by decide +kernel
theorem dX8_byDoing_97 : decode cX8_byDoing 97 = .ok (.ifCond .ne 22, 3) := by decide +kernel
theorem dX8_byDoing_100 : decode cX8_byDoing 100 = .ok (.aload_n 0, 1) := by decide +kernel
theorem dX8_byDoing_101 : decode cX8_byDoing 101 = .ok (.getfield 298, 3) := by decide +kernel
theorem dX8_byDoing_104 : decode cX8_byDoing 104 = .ok (.iload_n 2, 1) := by decide +kernel
theorem dX8_byDoing_105 : decode cX8_byDoing 105 = .ok (.ior, 1) := by decide +kernel
theorem dX8_byDoing_106 : decode cX8_byDoing 106 = .ok (.iload 7, 2) := by decide +kernel
theorem dX8_byDoing_108 : decode cX8_byDoing 108 = .ok (.ishr, 1) := by decide +kernel
theorem dX8_byDoing_109 : decode cX8_byDoing 109 = .ok (.iconst 1, 1) := by decide +kernel
theorem dX8_byDoing_110 : decode cX8_byDoing 110 = .ok (.iand, 1) := by decide +kernel
theorem dX8_byDoing_111 : decode cX8_byDoing 111 = .ok (.iconst 1, 1) := by decide +kernel
theorem dX8_byDoing_112 : decode cX8_byDoing 112 = .ok (.if_icmp .ne 7, 3) := by decide +kernel
theorem dX8_byDoing_115 : decode cX8_byDoing 115 = .ok (.iconst 1, 1) := by decide +kernel
theorem dX8_byDoing_116 : decode cX8_byDoing 116 = .ok (.goto 4, 3) := by decide +kernel
theorem dX8_byDoing_119 : decode cX8_byDoing 119 = .ok (.iconst 0, 1) := by decide +kernel
theorem dX8_byDoing_120 : decode cX8_byDoing 120 = .ok (.istore 9, 2) := by decide +kernel
theorem dX8_byDoing_122 : decode cX8_byDoing 122 = .ok (.iload 9, 2) := by decide +kernel
theorem dX8_byDoing_124 : decode cX8_byDoing 124 = .ok (.ifCond .ne 7, 3) := by decide +kernel
theorem dX8_byDoing_127 : decode cX8_byDoing 127 = .ok (.ldc_w 301, 3) := by decide +kernel
theorem dX8_byDoing_130 : decode cX8_byDoing 130 = .ok (.ireturn, 1) := by decide +kernel
theorem dX8_byDoing_131 : decode cX8_byDoing 131 = .ok (.iload 4, 2) := by decide +kernel
theorem dX8_byDoing_133 : decode cX8_byDoing 133 = .ok (.iconst 1, 1) := by decide +kernel
theorem dX8_byDoing_134 : decode cX8_byDoing 134 = .ok (.if_icmp .eq 12, 3) := by decide +kernel
theorem dX8_byDoing_137 : decode cX8_byDoing 137 = .ok (.iload_n 2, 1) := by decide +kernel
theorem dX8_byDoing_138 : decode cX8_byDoing 138 = .ok (.iload 8, 2) := by decide +kernel
theorem dX8_byDoing_140 : decode cX8_byDoing 140 = .ok (.ishr, 1) := by decide +kernel
theorem dX8_byDoing_141 : decode cX8_byDoing 141 = .ok (.iconst 1, 1) := by decide +kernel
theorem dX8_byDoing_142 : decode cX8_byDoing 142 = .ok (.iand, 1) := by decide +kernel
theorem dX8_byDoing_143 : decode cX8_byDoing 143 = .ok (.ifCond .ne 7, 3) := by decide +kernel
theorem dX8_byDoing_146 : decode cX8_byDoing 146 = .ok (.iconst 1, 1) := by decide +kernel
theorem dX8_byDoing_147 : decode cX8_byDoing 147 = .ok (.goto 4, 3) := by decide +kernel
theorem dX8_byDoing_150 : decode cX8_byDoing 150 = .ok (.iconst 0, 1) := by decide +kernel
theorem dX8_byDoing_151 : decode cX8_byDoing 151 = .ok (.istore 10, 2) := by decide +kernel
theorem dX8_byDoing_153 : decode cX8_byDoing 153 = .ok (.aload_n 0, 1) := by decide +kernel
theorem dX8_byDoing_154 : decode cX8_byDoing 154 = .ok (.getfield 100, 3) := by decide +kernel
theorem dX8_byDoing_157 : decode cX8_byDoing 157 = .ok (.iload_n 1, 1) := by decide +kernel
theorem dX8_byDoing_158 : decode cX8_byDoing 158 = .ok (.iconst 1, 1) := by decide +kernel
theorem dX8_byDoing_159 : decode cX8_byDoing 159 = .ok (.iadd, 1) := by decide +kernel
theorem dX8_byDoing_160 : decode cX8_byDoing 160 = .ok (.iload_n 2, 1) := by decide +kernel
theorem dX8_byDoing_161 : decode cX8_byDoing 161 = .ok (.iconst 1, 1) := by decide +kernel
theorem dX8_byDoing_162 : decode cX8_byDoing 162 = .ok (.iload 7, 2) := by decide +kernel
theorem dX8_byDoing_164 : decode cX8_byDoing 164 = .ok (.ishl, 1) := by decide +kernel
theorem dX8_byDoing_165 : decode cX8_byDoing 165 = .ok (.ior, 1) := by decide +kernel
theorem dX8_byDoing_166 : decode cX8_byDoing 166 = .ok (.iconst 1, 1) := by decide +kernel
theorem dX8_byDoing_167 : decode cX8_byDoing 167 = .ok (.iload 8, 2) := by decide +kernel
theorem dX8_byDoing_169 : decode cX8_byDoing 169 = .ok (.ishl, 1) := by decide +kernel
theorem dX8_byDoing_170 : decode cX8_byDoing 170 = .ok (.ior, 1) := by decide +kernel
theorem dX8_byDoing_171 : decode cX8_byDoing 171 = .ok (.aload_n 0, 1) := by decide +kernel
theorem dX8_byDoing_172 : decode cX8_byDoing 172 = .ok (.iload_n 1, 1) := by decide +kernel
theorem dX8_byDoing_173 : decode cX8_byDoing 173 = .ok (.iconst 1, 1) := by decide +kernel
theorem dX8_byDoing_174 : decode cX8_byDoing 174 = .ok (.iadd, 1) := by decide +kernel
theorem dX8_byDoing_175 : decode cX8_byDoing 175 = .ok (.iload_n 3, 1) := by decide +kernel
theorem dX8_byDoing_176 : decode cX8_byDoing 176 = .ok (.iconst 1, 1) := by decide +kernel
theorem dX8_byDoing_177 : decode cX8_byDoing 177 = .ok (.iload 7, 2) := by decide +kernel
theorem dX8_byDoing_179 : decode cX8_byDoing 179 = .ok (.ishl, 1) := by decide +kernel
theorem dX8_byDoing_180 : decode cX8_byDoing 180 = .ok (.ior, 1) := by decide +kernel
theorem dX8_byDoing_181 : decode cX8_byDoing 181 = .ok (.invokevirtual 288, 3) := by decide +kernel
theorem dX8_byDoing_184 : decode cX8_byDoing 184 = .ok (.iload 10, 2) := by decide +kernel
theorem dX8_byDoing_186 : decode cX8_byDoing 186 = .ok (.invokestatic 291, 3) := by decide +kernel
theorem dX8_byDoing_189 : decode cX8_byDoing 189 = .ok (.iaload, 1) := by decide +kernel
theorem dX8_byDoing_190 : decode cX8_byDoing 190 = .ok (.istore 11, 2) := by decide +kernel
theorem dX8_byDoing_192 : decode cX8_byDoing 192 = .ok (.iload 11, 2) := by decide +kernel
theorem dX8_byDoing_194 : decode cX8_byDoing 194 = .ok (.ldc_w 301, 3) := by decide +kernel
theorem dX8_byDoing_197 : decode cX8_byDoing 197 = .ok (.if_icmp .ne 9, 3) := by decide +kernel
theorem dX8_byDoing_200 : decode cX8_byDoing 200 = .ok (.ldc_w 301, 3) := by decide +kernel
theorem dX8_byDoing_203 : decode cX8_byDoing 203 = .ok (.goto 24, 3) := by decide +kernel
theorem dX8_byDoing_206 : decode cX8_byDoing 206 = .ok (.iload 11, 2) := by decide +kernel
theorem dX8_byDoing_208 : decode cX8_byDoing 208 = .ok (.aload_n 0, 1) := by decide +kernel
theorem dX8_byDoing_209 : decode cX8_byDoing 209 = .ok (.getfield 302, 3) := by decide +kernel
theorem dX8_byDoing_212 : decode cX8_byDoing 212 = .ok (.ifCond .eq 7, 3) := by decide +kernel
theorem dX8_byDoing_215 : decode cX8_byDoing 215 = .ok (.iconst 1, 1) := by decide +kernel
theorem dX8_byDoing_216 : decode cX8_byDoing 216 = .ok (.goto 10, 3) := by decide +kernel
theorem dX8_byDoing_219 : decode cX8_byDoing 219 = .ok (.aload_n 0, 1) := by decide +kernel
theorem dX8_byDoing_220 : decode cX8_byDoing 220 = .ok (.getfield 13, 3) := by decide +kernel
theorem dX8_byDoing_223 : decode cX8_byDoing 223 = .ok (.iload 7, 2) := by decide +kernel
theorem dX8_byDoing_225 : decode cX8_byDoing 225 = .ok (.iaload, 1) := by decide +kernel
theorem dX8_byDoing_226 : decode cX8_byDoing 226 = .ok (.iadd, 1) := by decide +kernel
theorem dX8_byDoing_227 : decode cX8_byDoing 227 = .ok (.ireturn, 1) := by decide +kernel
theorem dX8_tellDay_0 : decode cX8_tellDay 0 = .ok (.aload_n 0, 1) := by decide +kernel
theorem dX8_tellDay_1 : decode cX8_tellDay 1 = .ok (.iload_n 1, 1) := by decide +kernel
theorem dX8_tellDay_2 : decode cX8_tellDay 2 = .ok (.putfield 298, 3) := by decide +kernel
theorem dX8_tellDay_5 : decode cX8_tellDay 5 = .ok (.iconst 1, 1) := by decide +kernel
theorem dX8_tellDay_6 : decode cX8_tellDay 6 = .ok (.aload_n 0, 1) := by decide +kernel
theorem dX8_tellDay_7 : decode cX8_tellDay 7 = .ok (.getfield 7, 3) := by decide +kernel
theorem dX8_tellDay_10 : decode cX8_tellDay 10 = .ok (.iconst 0, 1) := by decide +kernel
theorem dX8_tellDay_11 : decode cX8_tellDay 11 = .ok (.iaload, 1) := by decide +kernel
theorem dX8_tellDay_12 : decode cX8_tellDay 12 = .ok (.ishl, 1) := by decide +kernel
theorem dX8_tellDay_13 : decode cX8_tellDay 13 = .ok (.istore_n 2, 1) := by decide +kernel
theorem dX8_tellDay_14 : decode cX8_tellDay 14 = .ok (.iconst 0, 1) := by decide +kernel
theorem dX8_tellDay_15 : decode cX8_tellDay 15 = .ok (.istore_n 3, 1) := by decide +kernel
theorem dX8_tellDay_16 : decode cX8_tellDay 16 = .ok (.iload_n 3, 1) := by decide +kernel
theorem dX8_tellDay_17 : decode cX8_tellDay 17 = .ok (.iload_n 2, 1) := by decide +kernel
theorem dX8_tellDay_18 : decode cX8_tellDay 18 = .ok (.if_icmp .ge 69, 3) := by decide +kernel
theorem dX8_tellDay_21 : decode cX8_tellDay 21 = .ok (.iconst 0, 1) := by decide +kernel
theorem dX8_tellDay_22 : decode cX8_tellDay 22 = .ok (.istore 4, 2) := by decide +kernel
theorem dX8_tellDay_24 : decode cX8_tellDay 24 = .ok (.iload 4, 2) := by decide +kernel
theorem dX8_tellDay_26 : decode cX8_tellDay 26 = .ok (.iload_n 2, 1) := by decide +kernel
theorem dX8_tellDay_27 : decode cX8_tellDay 27 = .ok (.if_icmp .ge 54, 3) := by decide +kernel
theorem dX8_tellDay_30 : decode cX8_tellDay 30 = .ok (.aload_n 0, 1) := by decide +kernel
theorem dX8_tellDay_31 : decode cX8_tellDay 31 = .ok (.getfield 100, 3) := by decide +kernel
theorem dX8_tellDay_34 : decode cX8_tellDay 34 = .ok (.aload_n 0, 1) := by decide +kernel
theorem dX8_tellDay_35 : decode cX8_tellDay 35 = .ok (.getfield 7, 3) := by decide +kernel
theorem dX8_tellDay_38 : decode cX8_tellDay 38 = .ok (.iconst 1, 1) := by decide +kernel
theorem dX8_tellDay_39 : decode cX8_tellDay 39 = .ok (.iaload, 1) := by decide +kernel
theorem dX8_tellDay_40 : decode cX8_tellDay 40 = .ok (.iload_n 3, 1) := by decide +kernel
theorem dX8_tellDay_41 : decode cX8_tellDay 41 = .ok (.iload 4, 2) := by decide +kernel
theorem dX8_tellDay_43 : decode cX8_tellDay 43 = .ok (.iconst 0, 1) := by decide +kernel
theorem dX8_tellDay_44 : decode cX8_tellDay 44 = .ok (.invokestatic 291, 3) := by decide +kernel
theorem dX8_tellDay_47 : decode cX8_tellDay 47 = .ok (.ldc_w 301, 3) := by decide +kernel
theorem dX8_tellDay_50 : decode cX8_tellDay 50 = .ok (.iastore, 1) := by decide +kernel
theorem dX8_tellDay_51 : decode cX8_tellDay 51 = .ok (.aload_n 0, 1) := by decide +kernel
theorem dX8_tellDay_52 : decode cX8_tellDay 52 = .ok (.getfield 100, 3) := by decide +kernel
theorem dX8_tellDay_55 : decode cX8_tellDay 55 = .ok (.aload_n 0, 1) := by decide +kernel
theorem dX8_tellDay_56 : decode cX8_tellDay 56 = .ok (.getfield 7, 3) := by decide +kernel
theorem dX8_tellDay_59 : decode cX8_tellDay 59 = .ok (.iconst 1, 1) := by decide +kernel
theorem dX8_tellDay_60 : decode cX8_tellDay 60 = .ok (.iaload, 1) := by decide +kernel
theorem dX8_tellDay_61 : decode cX8_tellDay 61 = .ok (.iload_n 3, 1) := by decide +kernel
theorem dX8_tellDay_62 : decode cX8_tellDay 62 = .ok (.iload 4, 2) := by decide +kernel
theorem dX8_tellDay_64 : decode cX8_tellDay 64 = .ok (.iconst 1, 1) := by decide +kernel
theorem dX8_tellDay_65 : decode cX8_tellDay 65 = .ok (.invokestatic 291, 3) := by decide +kernel
theorem dX8_tellDay_68 : decode cX8_tellDay 68 = .ok (.aload_n 0, 1) := by decide +kernel
theorem dX8_tellDay_69 : decode cX8_tellDay 69 = .ok (.getfield 87, 3) := by decide +kernel
theorem dX8_tellDay_72 : decode cX8_tellDay 72 = .ok (.iload_n 3, 1) := by decide +kernel
theorem dX8_tellDay_73 : decode cX8_tellDay 73 = .ok (.iaload, 1) := by decide +kernel
theorem dX8_tellDay_74 : decode cX8_tellDay 74 = .ok (.iastore, 1) := by decide +kernel
theorem dX8_tellDay_75 : decode cX8_tellDay 75 = .ok (.iinc 4 1, 3) := by decide +kernel
theorem dX8_tellDay_78 : decode cX8_tellDay 78 = .ok (.goto (-54), 3) := by decide +kernel
theorem dX8_tellDay_81 : decode cX8_tellDay 81 = .ok (.iinc 3 1, 3) := by decide +kernel
theorem dX8_tellDay_84 : decode cX8_tellDay 84 = .ok (.goto (-68), 3) := by decide +kernel
theorem dX8_tellDay_87 : decode cX8_tellDay 87 = .ok (.aload_n 0, 1) := by decide +kernel
theorem dX8_tellDay_88 : decode cX8_tellDay 88 = .ok (.getfield 7, 3) := by decide +kernel
theorem dX8_tellDay_91 : decode cX8_tellDay 91 = .ok (.iconst 1, 1) := by decide +kernel
theorem dX8_tellDay_92 : decode cX8_tellDay 92 = .ok (.iaload, 1) := by decide +kernel
theorem dX8_tellDay_93 : decode cX8_tellDay 93 = .ok (.iconst 1, 1) := by decide +kernel
theorem dX8_tellDay_94 : decode cX8_tellDay 94 = .ok (.isub, 1) := by decide +kernel
theorem dX8_tellDay_95 : decode cX8_tellDay 95 = .ok (.istore_n 3, 1) := by decide +kernel
theorem dX8_tellDay_96 : decode cX8_tellDay 96 = .ok (.iload_n 3, 1) := by decide +kernel
theorem dX8_tellDay_97 : decode cX8_tellDay 97 = .ok (.ifCond .lt 111, 3) := by decide +kernel
theorem dX8_tellDay_100 : decode cX8_tellDay 100 = .ok (.iconst 0, 1) := by decide +kernel
theorem dX8_tellDay_101 : decode cX8_tellDay 101 = .ok (.istore 4, 2) := by decide +kernel
theorem dX8_tellDay_103 : decode cX8_tellDay 103 = .ok (.iload 4, 2) := by decide +kernel
theorem dX8_tellDay_105 : decode cX8_tellDay 105 = .ok (.iload_n 2, 1) := by decide +kernel
theorem dX8_tellDay_106 : decode cX8_tellDay 106 = .ok (.if_icmp .ge 96, 3) := by decide +kernel
theorem dX8_tellDay_109 : decode cX8_tellDay 109 = .ok (.iconst 0, 1) := by decide +kernel
theorem dX8_tellDay_110 : decode cX8_tellDay 110 = .ok (.istore 5, 2) := by decide +kernel
theorem dX8_tellDay_112 : decode cX8_tellDay 112 = .ok (.iload 5, 2) := by decide +kernel
theorem dX8_tellDay_114 : decode cX8_tellDay 114 = .ok (.iload_n 2, 1) := by decide +kernel
theorem dX8_tellDay_115 : decode cX8_tellDay 115 = .ok (.if_icmp .ge 81, 3) := by decide +kernel
theorem dX8_tellDay_118 : decode cX8_tellDay 118 = .ok (.iconst 0, 1) := by decide +kernel
theorem dX8_tellDay_119 : decode cX8_tellDay 119 = .ok (.istore 6, 2) := by decide +kernel
theorem dX8_tellDay_121 : decode cX8_tellDay 121 = .ok (.iload 6, 2) := by decide +kernel
theorem dX8_tellDay_123 : decode cX8_tellDay 123 = .ok (.iconst 2, 1) := by decide +kernel
theorem dX8_tellDay_124 : decode cX8_tellDay 124 = .ok (.if_icmp .ge 66, 3) := by decide +kernel
theorem dX8_tellDay_127 : decode cX8_tellDay 127 = .ok (.aload_n 0, 1) := by decide +kernel
theorem dX8_tellDay_128 : decode cX8_tellDay 128 = .ok (.getfield 100, 3) := by decide +kernel
theorem dX8_tellDay_131 : decode cX8_tellDay 131 = .ok (.iload_n 3, 1) := by decide +kernel
theorem dX8_tellDay_132 : decode cX8_tellDay 132 = .ok (.iload 4, 2) := by decide +kernel
theorem dX8_tellDay_134 : decode cX8_tellDay 134 = .ok (.iload 5, 2) := by decide +kernel
theorem dX8_tellDay_136 : decode cX8_tellDay 136 = .ok (.iload 6, 2) := by decide +kernel
theorem dX8_tellDay_138 : decode cX8_tellDay 138 = .ok (.invokestatic 291, 3) := by decide +kernel
theorem dX8_tellDay_141 : decode cX8_tellDay 141 = .ok (.aload_n 0, 1) := by decide +kernel
theorem dX8_tellDay_142 : decode cX8_tellDay 142 = .ok (.iload_n 3, 1) := by decide +kernel
theorem dX8_tellDay_143 : decode cX8_tellDay 143 = .ok (.iload 4, 2) := by decide +kernel
theorem dX8_tellDay_145 : decode cX8_tellDay 145 = .ok (.iload 5, 2) := by decide +kernel
theorem dX8_tellDay_147 : decode cX8_tellDay 147 = .ok (.iload 6, 2) := by decide +kernel
theorem dX8_tellDay_149 : decode cX8_tellDay 149 = .ok (.iconst 0, 1) := by decide +kernel
theorem dX8_tellDay_150 : decode cX8_tellDay 150 = .ok (.invokevirtual 305, 3) := by decide +kernel
theorem dX8_tellDay_153 : decode cX8_tellDay 153 = .ok (.aload_n 0, 1) := by decide +kernel
theorem dX8_tellDay_154 : decode cX8_tellDay 154 = .ok (.iload_n 3, 1) := by decide +kernel
theorem dX8_tellDay_155 : decode cX8_tellDay 155 = .ok (.iload 4, 2) := by decide +kernel
theorem dX8_tellDay_157 : decode cX8_tellDay 157 = .ok (.iload 5, 2) := by decide +kernel
theorem dX8_tellDay_159 : decode cX8_tellDay 159 = .ok (.iload 6, 2) := by decide +kernel
theorem dX8_tellDay_161 : decode cX8_tellDay 161 = .ok (.iconst 1, 1) := by decide +kernel
theorem dX8_tellDay_162 : decode cX8_tellDay 162 = .ok (.invokevirtual 305, 3) := by decide +kernel
theorem dX8_tellDay_165 : decode cX8_tellDay 165 = .ok (.aload_n 0, 1) := by decide +kernel
theorem dX8_tellDay_166 : decode cX8_tellDay 166 = .ok (.iload_n 3, 1) := by decide +kernel
theorem dX8_tellDay_167 : decode cX8_tellDay 167 = .ok (.iload 4, 2) := by decide +kernel
theorem dX8_tellDay_169 : decode cX8_tellDay 169 = .ok (.iload 5, 2) := by decide +kernel
theorem dX8_tellDay_171 : decode cX8_tellDay 171 = .ok (.iload 6, 2) := by decide +kernel
theorem dX8_tellDay_173 : decode cX8_tellDay 173 = .ok (.iconst 2, 1) := by decide +kernel
theorem dX8_tellDay_174 : decode cX8_tellDay 174 = .ok (.invokevirtual 305, 3) := by decide +kernel
theorem dX8_tellDay_177 : decode cX8_tellDay 177 = .ok (.invokestatic 164, 3) := by decide +kernel
theorem dX8_tellDay_180 : decode cX8_tellDay 180 = .ok (.invokestatic 164, 3) := by decide +kernel
theorem dX8_tellDay_183 : decode cX8_tellDay 183 = .ok (.iastore, 1) := by decide +kernel
theorem dX8_tellDay_184 : decode cX8_tellDay 184 = .ok (.iinc 6 1, 3) := by decide +kernel
theorem dX8_tellDay_187 : decode cX8_tellDay 187 = .ok (.goto (-66), 3) := by decide +kernel
theorem dX8_tellDay_190 : decode cX8_tellDay 190 = .ok (.iinc 5 1, 3) := by decide +kernel
theorem dX8_tellDay_193 : decode cX8_tellDay 193 = .ok (.goto (-81), 3) := by decide +kernel
theorem dX8_tellDay_196 : decode cX8_tellDay 196 = .ok (.iinc 4 1, 3) := by decide +kernel
theorem dX8_tellDay_199 : decode cX8_tellDay 199 = .ok (.goto (-96), 3) := by decide +kernel
theorem dX8_tellDay_202 : decode cX8_tellDay 202 = .ok (.iinc 3 (-1), 3) := by decide +kernel
theorem dX8_tellDay_205 : decode cX8_tellDay 205 = .ok (.goto (-109), 3) := by decide +kernel
theorem dX8_tellDay_208 : decode cX8_tellDay 208 = .ok (.return_, 1) := by decide +kernel
theorem dX8_offer_0 : decode cX8_offer 0 = .ok (.iload_n 2, 1) := by decide +kernel
theorem dX8_offer_1 : decode cX8_offer 1 = .ok (.bipush 64, 2) := by decide +kernel
theorem dX8_offer_3 : decode cX8_offer 3 = .ok (.imul, 1) := by decide +kernel
theorem dX8_offer_4 : decode cX8_offer 4 = .ok (.iload_n 3, 1) := by decide +kernel
theorem dX8_offer_5 : decode cX8_offer 5 = .ok (.iadd, 1) := by decide +kernel
theorem dX8_offer_6 : decode cX8_offer 6 = .ok (.iconst 2, 1) := by decide +kernel
theorem dX8_offer_7 : decode cX8_offer 7 = .ok (.imul, 1) := by decide +kernel
theorem dX8_offer_8 : decode cX8_offer 8 = .ok (.iload 4, 2) := by decide +kernel
theorem dX8_offer_10 : decode cX8_offer 10 = .ok (.iadd, 1) := by decide +kernel
theorem dX8_offer_11 : decode cX8_offer 11 = .ok (.istore 6, 2) := by decide +kernel
theorem dX8_offer_13 : decode cX8_offer 13 = .ok (.sipush 8192, 3) := by decide +kernel
theorem dX8_offer_16 : decode cX8_offer 16 = .ok (.iload_n 1, 1) := by decide +kernel
theorem dX8_offer_17 : decode cX8_offer 17 = .ok (.imul, 1) := by decide +kernel
theorem dX8_offer_18 : decode cX8_offer 18 = .ok (.iload 6, 2) := by decide +kernel
theorem dX8_offer_20 : decode cX8_offer 20 = .ok (.iadd, 1) := by decide +kernel
theorem dX8_offer_21 : decode cX8_offer 21 = .ok (.istore 7, 2) := by decide +kernel
theorem dX8_offer_23 : decode cX8_offer 23 = .ok (.aload_n 0, 1) := by decide +kernel
theorem dX8_offer_24 : decode cX8_offer 24 = .ok (.getfield 115, 3) := by decide +kernel
theorem dX8_offer_27 : decode cX8_offer 27 = .ok (.iload 7, 2) := by decide +kernel
theorem dX8_offer_29 : decode cX8_offer 29 = .ok (.iaload, 1) := by decide +kernel
theorem dX8_offer_30 : decode cX8_offer 30 = .ok (.aload_n 0, 1) := by decide +kernel
theorem dX8_offer_31 : decode cX8_offer 31 = .ok (.getfield 309, 3) := by decide +kernel
theorem dX8_offer_34 : decode cX8_offer 34 = .ok (.if_icmp .ne 23, 3) := by decide +kernel
theorem dX8_offer_37 : decode cX8_offer 37 = .ok (.aload_n 0, 1) := by decide +kernel
theorem dX8_offer_38 : decode cX8_offer 38 = .ok (.getfield 112, 3) := by decide +kernel
theorem dX8_offer_41 : decode cX8_offer 41 = .ok (.iload 7, 2) := by decide +kernel
theorem dX8_offer_43 : decode cX8_offer 43 = .ok (.aload_n 0, 1) := by decide +kernel
theorem dX8_offer_44 : decode cX8_offer 44 = .ok (.getfield 112, 3) := by decide +kernel
theorem dX8_offer_47 : decode cX8_offer 47 = .ok (.iload 7, 2) := by decide +kernel
theorem dX8_offer_49 : decode cX8_offer 49 = .ok (.iaload, 1) := by decide +kernel
theorem dX8_offer_50 : decode cX8_offer 50 = .ok (.iload 5, 2) := by decide +kernel
theorem dX8_offer_52 : decode cX8_offer 52 = .ok (.invokestatic 164, 3) := by decide +kernel
theorem dX8_offer_55 : decode cX8_offer 55 = .ok (.iastore, 1) := by decide +kernel
theorem dX8_offer_56 : decode cX8_offer 56 = .ok (.return_, 1) := by decide +kernel
theorem dX8_offer_57 : decode cX8_offer 57 = .ok (.aload_n 0, 1) := by decide +kernel
theorem dX8_offer_58 : decode cX8_offer 58 = .ok (.getfield 115, 3) := by decide +kernel
theorem dX8_offer_61 : decode cX8_offer 61 = .ok (.iload 7, 2) := by decide +kernel
theorem dX8_offer_63 : decode cX8_offer 63 = .ok (.aload_n 0, 1) := by decide +kernel
theorem dX8_offer_64 : decode cX8_offer 64 = .ok (.getfield 309, 3) := by decide +kernel
theorem dX8_offer_67 : decode cX8_offer 67 = .ok (.iastore, 1) := by decide +kernel
theorem dX8_offer_68 : decode cX8_offer 68 = .ok (.aload_n 0, 1) := by decide +kernel
theorem dX8_offer_69 : decode cX8_offer 69 = .ok (.getfield 112, 3) := by decide +kernel
theorem dX8_offer_72 : decode cX8_offer 72 = .ok (.iload 7, 2) := by decide +kernel
theorem dX8_offer_74 : decode cX8_offer 74 = .ok (.iload 5, 2) := by decide +kernel
theorem dX8_offer_76 : decode cX8_offer 76 = .ok (.iastore, 1) := by decide +kernel
theorem dX8_offer_77 : decode cX8_offer 77 = .ok (.aload_n 0, 1) := by decide +kernel
theorem dX8_offer_78 : decode cX8_offer 78 = .ok (.getfield 109, 3) := by decide +kernel
theorem dX8_offer_81 : decode cX8_offer 81 = .ok (.sipush 8192, 3) := by decide +kernel
theorem dX8_offer_84 : decode cX8_offer 84 = .ok (.iload_n 1, 1) := by decide +kernel
theorem dX8_offer_85 : decode cX8_offer 85 = .ok (.imul, 1) := by decide +kernel
theorem dX8_offer_86 : decode cX8_offer 86 = .ok (.aload_n 0, 1) := by decide +kernel
theorem dX8_offer_87 : decode cX8_offer 87 = .ok (.getfield 312, 3) := by decide +kernel
theorem dX8_offer_90 : decode cX8_offer 90 = .ok (.iadd, 1) := by decide +kernel
theorem dX8_offer_91 : decode cX8_offer 91 = .ok (.iload 6, 2) := by decide +kernel
theorem dX8_offer_93 : decode cX8_offer 93 = .ok (.iastore, 1) := by decide +kernel
theorem dX8_offer_94 : decode cX8_offer 94 = .ok (.aload_n 0, 1) := by decide +kernel
theorem dX8_offer_95 : decode cX8_offer 95 = .ok (.dup, 1) := by decide +kernel
theorem dX8_offer_96 : decode cX8_offer 96 = .ok (.getfield 312, 3) := by decide +kernel
theorem dX8_offer_99 : decode cX8_offer 99 = .ok (.iconst 1, 1) := by decide +kernel
theorem dX8_offer_100 : decode cX8_offer 100 = .ok (.iadd, 1) := by decide +kernel
theorem dX8_offer_101 : decode cX8_offer 101 = .ok (.putfield 312, 3) := by decide +kernel
theorem dX8_offer_104 : decode cX8_offer 104 = .ok (.return_, 1) := by decide +kernel
theorem dX8_tellFare_0 : decode cX8_tellFare 0 = .ok (.aload_n 0, 1) := by decide +kernel
theorem dX8_tellFare_1 : decode cX8_tellFare 1 = .ok (.iload_n 1, 1) := by decide +kernel
theorem dX8_tellFare_2 : decode cX8_tellFare 2 = .ok (.putfield 298, 3) := by decide +kernel
theorem dX8_tellFare_5 : decode cX8_tellFare 5 = .ok (.aload_n 0, 1) := by decide +kernel
theorem dX8_tellFare_6 : decode cX8_tellFare 6 = .ok (.dup, 1) := by decide +kernel
theorem dX8_tellFare_7 : decode cX8_tellFare 7 = .ok (.getfield 309, 3) := by decide +kernel
theorem dX8_tellFare_10 : decode cX8_tellFare 10 = .ok (.iconst 1, 1) := by decide +kernel
theorem dX8_tellFare_11 : decode cX8_tellFare 11 = .ok (.iadd, 1) := by decide +kernel
theorem dX8_tellFare_12 : decode cX8_tellFare 12 = .ok (.putfield 309, 3) := by decide +kernel
theorem dX8_tellFare_15 : decode cX8_tellFare 15 = .ok (.aload_n 0, 1) := by decide +kernel
theorem dX8_tellFare_16 : decode cX8_tellFare 16 = .ok (.iconst 0, 1) := by decide +kernel
theorem dX8_tellFare_17 : decode cX8_tellFare 17 = .ok (.putfield 312, 3) := by decide +kernel
theorem dX8_tellFare_20 : decode cX8_tellFare 20 = .ok (.aload_n 0, 1) := by decide +kernel
theorem dX8_tellFare_21 : decode cX8_tellFare 21 = .ok (.iconst 0, 1) := by decide +kernel
theorem dX8_tellFare_22 : decode cX8_tellFare 22 = .ok (.iconst 0, 1) := by decide +kernel
theorem dX8_tellFare_23 : decode cX8_tellFare 23 = .ok (.iconst 0, 1) := by decide +kernel
theorem dX8_tellFare_24 : decode cX8_tellFare 24 = .ok (.iconst 0, 1) := by decide +kernel
theorem dX8_tellFare_25 : decode cX8_tellFare 25 = .ok (.iconst 0, 1) := by decide +kernel
theorem dX8_tellFare_26 : decode cX8_tellFare 26 = .ok (.invokevirtual 315, 3) := by decide +kernel
theorem dX8_tellFare_29 : decode cX8_tellFare 29 = .ok (.aload_n 0, 1) := by decide +kernel
theorem dX8_tellFare_30 : decode cX8_tellFare 30 = .ok (.aload_n 0, 1) := by decide +kernel
theorem dX8_tellFare_31 : decode cX8_tellFare 31 = .ok (.getfield 312, 3) := by decide +kernel
theorem dX8_tellFare_34 : decode cX8_tellFare 34 = .ok (.putfield 319, 3) := by decide +kernel
theorem dX8_tellFare_37 : decode cX8_tellFare 37 = .ok (.iconst 0, 1) := by decide +kernel
theorem dX8_tellFare_38 : decode cX8_tellFare 38 = .ok (.istore_n 2, 1) := by decide +kernel
theorem dX8_tellFare_39 : decode cX8_tellFare 39 = .ok (.iload_n 2, 1) := by decide +kernel
theorem dX8_tellFare_40 : decode cX8_tellFare 40 = .ok (.aload_n 0, 1) := by decide +kernel
theorem dX8_tellFare_41 : decode cX8_tellFare 41 = .ok (.getfield 7, 3) := by decide +kernel
theorem dX8_tellFare_44 : decode cX8_tellFare 44 = .ok (.iconst 1, 1) := by decide +kernel
theorem dX8_tellFare_45 : decode cX8_tellFare 45 = .ok (.iaload, 1) := by decide +kernel
theorem dX8_tellFare_46 : decode cX8_tellFare 46 = .ok (.if_icmp .ge 67, 3) := by decide +kernel
theorem dX8_tellFare_49 : decode cX8_tellFare 49 = .ok (.aload_n 0, 1) := by decide +kernel
theorem dX8_tellFare_50 : decode cX8_tellFare 50 = .ok (.dup, 1) := by decide +kernel
theorem dX8_tellFare_51 : decode cX8_tellFare 51 = .ok (.getfield 309, 3) := by decide +kernel
theorem dX8_tellFare_54 : decode cX8_tellFare 54 = .ok (.iconst 1, 1) := by decide +kernel
theorem dX8_tellFare_55 : decode cX8_tellFare 55 = .ok (.iadd, 1) := by decide +kernel
theorem dX8_tellFare_56 : decode cX8_tellFare 56 = .ok (.putfield 309, 3) := by decide +kernel
theorem dX8_tellFare_59 : decode cX8_tellFare 59 = .ok (.aload_n 0, 1) := by decide +kernel
theorem dX8_tellFare_60 : decode cX8_tellFare 60 = .ok (.iconst 0, 1) := by decide +kernel
theorem dX8_tellFare_61 : decode cX8_tellFare 61 = .ok (.putfield 312, 3) := by decide +kernel
theorem dX8_tellFare_64 : decode cX8_tellFare 64 = .ok (.iconst 0, 1) := by decide +kernel
theorem dX8_tellFare_65 : decode cX8_tellFare 65 = .ok (.istore_n 3, 1) := by decide +kernel
theorem dX8_tellFare_66 : decode cX8_tellFare 66 = .ok (.iload_n 3, 1) := by decide +kernel
theorem dX8_tellFare_67 : decode cX8_tellFare 67 = .ok (.aload_n 0, 1) := by decide +kernel
theorem dX8_tellFare_68 : decode cX8_tellFare 68 = .ok (.getfield 319, 3) := by decide +kernel
theorem dX8_tellFare_71 : decode cX8_tellFare 71 = .ok (.if_icmp .ge 28, 3) := by decide +kernel
theorem dX8_tellFare_74 : decode cX8_tellFare 74 = .ok (.aload_n 0, 1) := by decide +kernel
theorem dX8_tellFare_75 : decode cX8_tellFare 75 = .ok (.iload_n 2, 1) := by decide +kernel
theorem dX8_tellFare_76 : decode cX8_tellFare 76 = .ok (.aload_n 0, 1) := by decide +kernel
theorem dX8_tellFare_77 : decode cX8_tellFare 77 = .ok (.getfield 109, 3) := by decide +kernel
theorem dX8_tellFare_80 : decode cX8_tellFare 80 = .ok (.sipush 8192, 3) := by decide +kernel
theorem dX8_tellFare_83 : decode cX8_tellFare 83 = .ok (.iload_n 2, 1) := by decide +kernel
theorem dX8_tellFare_84 : decode cX8_tellFare 84 = .ok (.iconst 2, 1) := by decide +kernel
theorem dX8_tellFare_85 : decode cX8_tellFare 85 = .ok (.irem, 1) := by decide +kernel
theorem dX8_tellFare_86 : decode cX8_tellFare 86 = .ok (.imul, 1) := by decide +kernel
theorem dX8_tellFare_87 : decode cX8_tellFare 87 = .ok (.iload_n 3, 1) := by decide +kernel
theorem dX8_tellFare_88 : decode cX8_tellFare 88 = .ok (.iadd, 1) := by decide +kernel
theorem dX8_tellFare_89 : decode cX8_tellFare 89 = .ok (.iaload, 1) := by decide +kernel
theorem dX8_tellFare_90 : decode cX8_tellFare 90 = .ok (.invokevirtual 322, 3) := by decide +kernel
theorem dX8_tellFare_93 : decode cX8_tellFare 93 = .ok (.iinc 3 1, 3) := by decide +kernel
theorem dX8_tellFare_96 : decode cX8_tellFare 96 = .ok (.goto (-30), 3) := by decide +kernel
theorem dX8_tellFare_99 : decode cX8_tellFare 99 = .ok (.aload_n 0, 1) := by decide +kernel
theorem dX8_tellFare_100 : decode cX8_tellFare 100 = .ok (.aload_n 0, 1) := by decide +kernel
theorem dX8_tellFare_101 : decode cX8_tellFare 101 = .ok (.getfield 312, 3) := by decide +kernel
theorem dX8_tellFare_104 : decode cX8_tellFare 104 = .ok (.putfield 319, 3) := by decide +kernel
theorem dX8_tellFare_107 : decode cX8_tellFare 107 = .ok (.iinc 2 1, 3) := by decide +kernel
theorem dX8_tellFare_110 : decode cX8_tellFare 110 = .ok (.goto (-71), 3) := by decide +kernel
theorem dX8_tellFare_113 : decode cX8_tellFare 113 = .ok (.iconst 0, 1) := by decide +kernel
theorem dX8_tellFare_114 : decode cX8_tellFare 114 = .ok (.istore_n 2, 1) := by decide +kernel
theorem dX8_tellFare_115 : decode cX8_tellFare 115 = .ok (.iload_n 2, 1) := by decide +kernel
theorem dX8_tellFare_116 : decode cX8_tellFare 116 = .ok (.bipush 64, 2) := by decide +kernel
theorem dX8_tellFare_118 : decode cX8_tellFare 118 = .ok (.if_icmp .ge 23, 3) := by decide +kernel
theorem dX8_tellFare_121 : decode cX8_tellFare 121 = .ok (.aload_n 0, 1) := by decide +kernel
theorem dX8_tellFare_122 : decode cX8_tellFare 122 = .ok (.getfield 103, 3) := by decide +kernel
theorem dX8_tellFare_125 : decode cX8_tellFare 125 = .ok (.bipush 64, 2) := by decide +kernel
theorem dX8_tellFare_127 : decode cX8_tellFare 127 = .ok (.iload_n 1, 1) := by decide +kernel
theorem dX8_tellFare_128 : decode cX8_tellFare 128 = .ok (.imul, 1) := by decide +kernel
theorem dX8_tellFare_129 : decode cX8_tellFare 129 = .ok (.iload_n 2, 1) := by decide +kernel
theorem dX8_tellFare_130 : decode cX8_tellFare 130 = .ok (.iadd, 1) := by decide +kernel
theorem dX8_tellFare_131 : decode cX8_tellFare 131 = .ok (.ldc_w 301, 3) := by decide +kernel
theorem dX8_tellFare_134 : decode cX8_tellFare 134 = .ok (.iastore, 1) := by decide +kernel
theorem dX8_tellFare_135 : decode cX8_tellFare 135 = .ok (.iinc 2 1, 3) := by decide +kernel
theorem dX8_tellFare_138 : decode cX8_tellFare 138 = .ok (.goto (-23), 3) := by decide +kernel
theorem dX8_tellFare_141 : decode cX8_tellFare 141 = .ok (.sipush 8192, 3) := by decide +kernel
theorem dX8_tellFare_144 : decode cX8_tellFare 144 = .ok (.aload_n 0, 1) := by decide +kernel
theorem dX8_tellFare_145 : decode cX8_tellFare 145 = .ok (.getfield 7, 3) := by decide +kernel
theorem dX8_tellFare_148 : decode cX8_tellFare 148 = .ok (.iconst 1, 1) := by decide +kernel
theorem dX8_tellFare_149 : decode cX8_tellFare 149 = .ok (.iaload, 1) := by decide +kernel
theorem dX8_tellFare_150 : decode cX8_tellFare 150 = .ok (.iconst 2, 1) := by decide +kernel
theorem dX8_tellFare_151 : decode cX8_tellFare 151 = .ok (.irem, 1) := by decide +kernel
theorem dX8_tellFare_152 : decode cX8_tellFare 152 = .ok (.imul, 1) := by decide +kernel
theorem dX8_tellFare_153 : decode cX8_tellFare 153 = .ok (.istore_n 2, 1) := by decide +kernel
theorem dX8_tellFare_154 : decode cX8_tellFare 154 = .ok (.iconst 0, 1) := by decide +kernel
theorem dX8_tellFare_155 : decode cX8_tellFare 155 = .ok (.istore_n 3, 1) := by decide +kernel
theorem dX8_tellFare_156 : decode cX8_tellFare 156 = .ok (.iload_n 3, 1) := by decide +kernel
theorem dX8_tellFare_157 : decode cX8_tellFare 157 = .ok (.aload_n 0, 1) := by decide +kernel
theorem dX8_tellFare_158 : decode cX8_tellFare 158 = .ok (.getfield 319, 3) := by decide +kernel
theorem dX8_tellFare_161 : decode cX8_tellFare 161 = .ok (.if_icmp .ge 67, 3) := by decide +kernel
theorem dX8_tellFare_164 : decode cX8_tellFare 164 = .ok (.aload_n 0, 1) := by decide +kernel
theorem dX8_tellFare_165 : decode cX8_tellFare 165 = .ok (.getfield 109, 3) := by decide +kernel
theorem dX8_tellFare_168 : decode cX8_tellFare 168 = .ok (.iload_n 2, 1) := by decide +kernel
theorem dX8_tellFare_169 : decode cX8_tellFare 169 = .ok (.iload_n 3, 1) := by decide +kernel
theorem dX8_tellFare_170 : decode cX8_tellFare 170 = .ok (.iadd, 1) := by decide +kernel
theorem dX8_tellFare_171 : decode cX8_tellFare 171 = .ok (.iaload, 1) := by decide +kernel
theorem dX8_tellFare_172 : decode cX8_tellFare 172 = .ok (.istore 4, 2) := by decide +kernel
theorem dX8_tellFare_174 : decode cX8_tellFare 174 = .ok (.bipush 64, 2) := by decide +kernel
theorem dX8_tellFare_176 : decode cX8_tellFare 176 = .ok (.iload_n 1, 1) := by decide +kernel
theorem dX8_tellFare_177 : decode cX8_tellFare 177 = .ok (.imul, 1) := by decide +kernel
theorem dX8_tellFare_178 : decode cX8_tellFare 178 = .ok (.iload 4, 2) := by decide +kernel
theorem dX8_tellFare_180 : decode cX8_tellFare 180 = .ok (.iconst 2, 1) := by decide +kernel
theorem dX8_tellFare_181 : decode cX8_tellFare 181 = .ok (.idiv, 1) := by decide +kernel
theorem dX8_tellFare_182 : decode cX8_tellFare 182 = .ok (.bipush 64, 2) := by decide +kernel
theorem dX8_tellFare_184 : decode cX8_tellFare 184 = .ok (.idiv, 1) := by decide +kernel
theorem dX8_tellFare_185 : decode cX8_tellFare 185 = .ok (.iadd, 1) := by decide +kernel
theorem dX8_tellFare_186 : decode cX8_tellFare 186 = .ok (.istore 5, 2) := by decide +kernel
theorem dX8_tellFare_188 : decode cX8_tellFare 188 = .ok (.iload 4, 2) := by decide +kernel
theorem dX8_tellFare_190 : decode cX8_tellFare 190 = .ok (.iconst 2, 1) := by decide +kernel
theorem dX8_tellFare_191 : decode cX8_tellFare 191 = .ok (.irem, 1) := by decide +kernel
theorem dX8_tellFare_192 : decode cX8_tellFare 192 = .ok (.iconst 1, 1) := by decide +kernel
theorem dX8_tellFare_193 : decode cX8_tellFare 193 = .ok (.if_icmp .ne 29, 3) := by decide +kernel
theorem dX8_tellFare_196 : decode cX8_tellFare 196 = .ok (.aload_n 0, 1) := by decide +kernel
theorem dX8_tellFare_197 : decode cX8_tellFare 197 = .ok (.getfield 103, 3) := by decide +kernel
theorem dX8_tellFare_200 : decode cX8_tellFare 200 = .ok (.iload 5, 2) := by decide +kernel
theorem dX8_tellFare_202 : decode cX8_tellFare 202 = .ok (.aload_n 0, 1) := by decide +kernel
theorem dX8_tellFare_203 : decode cX8_tellFare 203 = .ok (.getfield 103, 3) := by decide +kernel
theorem dX8_tellFare_206 : decode cX8_tellFare 206 = .ok (.iload 5, 2) := by decide +kernel
theorem dX8_tellFare_208 : decode cX8_tellFare 208 = .ok (.iaload, 1) := by decide +kernel
theorem dX8_tellFare_209 : decode cX8_tellFare 209 = .ok (.aload_n 0, 1) := by decide +kernel
theorem dX8_tellFare_210 : decode cX8_tellFare 210 = .ok (.getfield 112, 3) := by decide +kernel
theorem dX8_tellFare_213 : decode cX8_tellFare 213 = .ok (.iload_n 2, 1) := by decide +kernel
theorem dX8_tellFare_214 : decode cX8_tellFare 214 = .ok (.iload 4, 2) := by decide +kernel
theorem dX8_tellFare_216 : decode cX8_tellFare 216 = .ok (.iadd, 1) := by decide +kernel
theorem dX8_tellFare_217 : decode cX8_tellFare 217 = .ok (.iaload, 1) := by decide +kernel
theorem dX8_tellFare_218 : decode cX8_tellFare 218 = .ok (.invokestatic 164, 3) := by decide +kernel
theorem dX8_tellFare_221 : decode cX8_tellFare 221 = .ok (.iastore, 1) := by decide +kernel
theorem dX8_tellFare_222 : decode cX8_tellFare 222 = .ok (.iinc 3 1, 3) := by decide +kernel
theorem dX8_tellFare_225 : decode cX8_tellFare 225 = .ok (.goto (-69), 3) := by decide +kernel
theorem dX8_tellFare_228 : decode cX8_tellFare 228 = .ok (.aload_n 0, 1) := by decide +kernel
theorem dX8_tellFare_229 : decode cX8_tellFare 229 = .ok (.getfield 106, 3) := by decide +kernel
theorem dX8_tellFare_232 : decode cX8_tellFare 232 = .ok (.iload_n 1, 1) := by decide +kernel
theorem dX8_tellFare_233 : decode cX8_tellFare 233 = .ok (.iconst 1, 1) := by decide +kernel
theorem dX8_tellFare_234 : decode cX8_tellFare 234 = .ok (.bastore, 1) := by decide +kernel
theorem dX8_tellFare_235 : decode cX8_tellFare 235 = .ok (.return_, 1) := by decide +kernel
theorem dX8_spread_0 : decode cX8_spread 0 = .ok (.aload_n 0, 1) := by decide +kernel
theorem dX8_spread_1 : decode cX8_spread 1 = .ok (.getfield 112, 3) := by decide +kernel
theorem dX8_spread_4 : decode cX8_spread 4 = .ok (.sipush 8192, 3) := by decide +kernel
theorem dX8_spread_7 : decode cX8_spread 7 = .ok (.iload_n 1, 1) := by decide +kernel
theorem dX8_spread_8 : decode cX8_spread 8 = .ok (.iconst 2, 1) := by decide +kernel
theorem dX8_spread_9 : decode cX8_spread 9 = .ok (.irem, 1) := by decide +kernel
theorem dX8_spread_10 : decode cX8_spread 10 = .ok (.imul, 1) := by decide +kernel
theorem dX8_spread_11 : decode cX8_spread 11 = .ok (.iload_n 2, 1) := by decide +kernel
theorem dX8_spread_12 : decode cX8_spread 12 = .ok (.iadd, 1) := by decide +kernel
theorem dX8_spread_13 : decode cX8_spread 13 = .ok (.iaload, 1) := by decide +kernel
theorem dX8_spread_14 : decode cX8_spread 14 = .ok (.istore_n 3, 1) := by decide +kernel
theorem dX8_spread_15 : decode cX8_spread 15 = .ok (.iload_n 2, 1) := by decide +kernel
theorem dX8_spread_16 : decode cX8_spread 16 = .ok (.iconst 2, 1) := by decide +kernel
theorem dX8_spread_17 : decode cX8_spread 17 = .ok (.idiv, 1) := by decide +kernel
theorem dX8_spread_18 : decode cX8_spread 18 = .ok (.bipush 64, 2) := by decide +kernel
theorem dX8_spread_20 : decode cX8_spread 20 = .ok (.idiv, 1) := by decide +kernel
theorem dX8_spread_21 : decode cX8_spread 21 = .ok (.istore 4, 2) := by decide +kernel
theorem dX8_spread_23 : decode cX8_spread 23 = .ok (.iload_n 2, 1) := by decide +kernel
theorem dX8_spread_24 : decode cX8_spread 24 = .ok (.iconst 2, 1) := by decide +kernel
theorem dX8_spread_25 : decode cX8_spread 25 = .ok (.idiv, 1) := by decide +kernel
theorem dX8_spread_26 : decode cX8_spread 26 = .ok (.bipush 64, 2) := by decide +kernel
theorem dX8_spread_28 : decode cX8_spread 28 = .ok (.irem, 1) := by decide +kernel
theorem dX8_spread_29 : decode cX8_spread 29 = .ok (.istore 5, 2) := by decide +kernel
theorem dX8_spread_31 : decode cX8_spread 31 = .ok (.iload_n 2, 1) := by decide +kernel
theorem dX8_spread_32 : decode cX8_spread 32 = .ok (.iconst 2, 1) := by decide +kernel
theorem dX8_spread_33 : decode cX8_spread 33 = .ok (.irem, 1) := by decide +kernel
theorem dX8_spread_34 : decode cX8_spread 34 = .ok (.istore 6, 2) := by decide +kernel
theorem dX8_spread_36 : decode cX8_spread 36 = .ok (.aload_n 0, 1) := by decide +kernel
theorem dX8_spread_37 : decode cX8_spread 37 = .ok (.getfield 84, 3) := by decide +kernel
theorem dX8_spread_40 : decode cX8_spread 40 = .ok (.iload_n 1, 1) := by decide +kernel
theorem dX8_spread_41 : decode cX8_spread 41 = .ok (.iaload, 1) := by decide +kernel
theorem dX8_spread_42 : decode cX8_spread 42 = .ok (.istore 7, 2) := by decide +kernel
theorem dX8_spread_44 : decode cX8_spread 44 = .ok (.iload_n 1, 1) := by decide +kernel
theorem dX8_spread_45 : decode cX8_spread 45 = .ok (.iconst 1, 1) := by decide +kernel
theorem dX8_spread_46 : decode cX8_spread 46 = .ok (.iadd, 1) := by decide +kernel
theorem dX8_spread_47 : decode cX8_spread 47 = .ok (.iconst 2, 1) := by decide +kernel
theorem dX8_spread_48 : decode cX8_spread 48 = .ok (.irem, 1) := by decide +kernel
theorem dX8_spread_49 : decode cX8_spread 49 = .ok (.istore 8, 2) := by decide +kernel
theorem dX8_spread_51 : decode cX8_spread 51 = .ok (.aload_n 0, 1) := by decide +kernel
theorem dX8_spread_52 : decode cX8_spread 52 = .ok (.iload 8, 2) := by decide +kernel
theorem dX8_spread_54 : decode cX8_spread 54 = .ok (.iload 4, 2) := by decide +kernel
theorem dX8_spread_56 : decode cX8_spread 56 = .ok (.aload_n 0, 1) := by decide +kernel
theorem dX8_spread_57 : decode cX8_spread 57 = .ok (.iload_n 1, 1) := by decide +kernel
theorem dX8_spread_58 : decode cX8_spread 58 = .ok (.iconst 1, 1) := by decide +kernel
theorem dX8_spread_59 : decode cX8_spread 59 = .ok (.iadd, 1) := by decide +kernel
theorem dX8_spread_60 : decode cX8_spread 60 = .ok (.iload 5, 2) := by decide +kernel
theorem dX8_spread_62 : decode cX8_spread 62 = .ok (.invokevirtual 288, 3) := by decide +kernel
theorem dX8_spread_65 : decode cX8_spread 65 = .ok (.iload 6, 2) := by decide +kernel
theorem dX8_spread_67 : decode cX8_spread 67 = .ok (.iload_n 3, 1) := by decide +kernel
theorem dX8_spread_68 : decode cX8_spread 68 = .ok (.invokevirtual 315, 3) := by decide +kernel
theorem dX8_spread_71 : decode cX8_spread 71 = .ok (.iconst 1, 1) := by decide +kernel
theorem dX8_spread_72 : decode cX8_spread 72 = .ok (.istore 9, 2) := by decide +kernel
theorem dX8_spread_74 : decode cX8_spread 74 = .ok (.iload 9, 2) := by decide +kernel
theorem dX8_spread_76 : decode cX8_spread 76 = .ok (.iconst 3, 1) := by decide +kernel
theorem dX8_spread_77 : decode cX8_spread 77 = .ok (.if_icmp .ge 170, 3) := by decide +kernel
theorem dX8_spread_80 : decode cX8_spread 80 = .ok (.iload 9, 2) := by decide +kernel
theorem dX8_spread_82 : decode cX8_spread 82 = .ok (.iconst 1, 1) := by decide +kernel
theorem dX8_spread_83 : decode cX8_spread 83 = .ok (.if_icmp .ne 13, 3) := by decide +kernel
theorem dX8_spread_86 : decode cX8_spread 86 = .ok (.aload_n 0, 1) := by decide +kernel
theorem dX8_spread_87 : decode cX8_spread 87 = .ok (.getfield 16, 3) := by decide +kernel
theorem dX8_spread_90 : decode cX8_spread 90 = .ok (.iload 7, 2) := by decide +kernel
theorem dX8_spread_92 : decode cX8_spread 92 = .ok (.iaload, 1) := by decide +kernel
theorem dX8_spread_93 : decode cX8_spread 93 = .ok (.goto 10, 3) := by decide +kernel
theorem dX8_spread_96 : decode cX8_spread 96 = .ok (.aload_n 0, 1) := by decide +kernel
theorem dX8_spread_97 : decode cX8_spread 97 = .ok (.getfield 19, 3) := by decide +kernel
theorem dX8_spread_100 : decode cX8_spread 100 = .ok (.iload 7, 2) := by decide +kernel
theorem dX8_spread_102 : decode cX8_spread 102 = .ok (.iaload, 1) := by decide +kernel
theorem dX8_spread_103 : decode cX8_spread 103 = .ok (.istore 10, 2) := by decide +kernel
theorem dX8_spread_105 : decode cX8_spread 105 = .ok (.iload 9, 2) := by decide +kernel
theorem dX8_spread_107 : decode cX8_spread 107 = .ok (.iconst 1, 1) := by decide +kernel
theorem dX8_spread_108 : decode cX8_spread 108 = .ok (.if_icmp .ne 13, 3) := by decide +kernel
theorem dX8_spread_111 : decode cX8_spread 111 = .ok (.aload_n 0, 1) := by decide +kernel
theorem dX8_spread_112 : decode cX8_spread 112 = .ok (.getfield 19, 3) := by decide +kernel
theorem dX8_spread_115 : decode cX8_spread 115 = .ok (.iload 7, 2) := by decide +kernel
theorem dX8_spread_117 : decode cX8_spread 117 = .ok (.iaload, 1) := by decide +kernel
theorem dX8_spread_118 : decode cX8_spread 118 = .ok (.goto 10, 3) := by decide +kernel
theorem dX8_spread_121 : decode cX8_spread 121 = .ok (.aload_n 0, 1) := by decide +kernel
theorem dX8_spread_122 : decode cX8_spread 122 = .ok (.getfield 16, 3) := by decide +kernel
theorem dX8_spread_125 : decode cX8_spread 125 = .ok (.iload 7, 2) := by decide +kernel
theorem dX8_spread_127 : decode cX8_spread 127 = .ok (.iaload, 1) := by decide +kernel
theorem dX8_spread_128 : decode cX8_spread 128 = .ok (.istore 11, 2) := by decide +kernel
theorem dX8_spread_130 : decode cX8_spread 130 = .ok (.iload 5, 2) := by decide +kernel
theorem dX8_spread_132 : decode cX8_spread 132 = .ok (.aload_n 0, 1) := by decide +kernel
theorem dX8_spread_133 : decode cX8_spread 133 = .ok (.getfield 295, 3) := by decide +kernel
theorem dX8_spread_136 : decode cX8_spread 136 = .ok (.ior, 1) := by decide +kernel
theorem dX8_spread_137 : decode cX8_spread 137 = .ok (.iload 10, 2) := by decide +kernel
theorem dX8_spread_139 : decode cX8_spread 139 = .ok (.ishr, 1) := by decide +kernel
theorem dX8_spread_140 : decode cX8_spread 140 = .ok (.iconst 1, 1) := by decide +kernel
theorem dX8_spread_141 : decode cX8_spread 141 = .ok (.iand, 1) := by decide +kernel
theorem dX8_spread_142 : decode cX8_spread 142 = .ok (.iconst 1, 1) := by decide +kernel
theorem dX8_spread_143 : decode cX8_spread 143 = .ok (.if_icmp .eq 98, 3) := by decide +kernel
theorem dX8_spread_146 : decode cX8_spread 146 = .ok (.aload_n 0, 1) := by decide +kernel
theorem dX8_spread_147 : decode cX8_spread 147 = .ok (.getfield 298, 3) := by decide +kernel
theorem dX8_spread_150 : decode cX8_spread 150 = .ok (.iload 4, 2) := by decide +kernel
theorem dX8_spread_152 : decode cX8_spread 152 = .ok (.ior, 1) := by decide +kernel
theorem dX8_spread_153 : decode cX8_spread 153 = .ok (.iload 10, 2) := by decide +kernel
theorem dX8_spread_155 : decode cX8_spread 155 = .ok (.ishr, 1) := by decide +kernel
theorem dX8_spread_156 : decode cX8_spread 156 = .ok (.iconst 1, 1) := by decide +kernel
theorem dX8_spread_157 : decode cX8_spread 157 = .ok (.iand, 1) := by decide +kernel
theorem dX8_spread_158 : decode cX8_spread 158 = .ok (.ifCond .ne 6, 3) := by decide +kernel
theorem dX8_spread_161 : decode cX8_spread 161 = .ok (.goto 80, 3) := by decide +kernel
theorem dX8_spread_164 : decode cX8_spread 164 = .ok (.iload 6, 2) := by decide +kernel
theorem dX8_spread_166 : decode cX8_spread 166 = .ok (.iconst 1, 1) := by decide +kernel
theorem dX8_spread_167 : decode cX8_spread 167 = .ok (.if_icmp .eq 13, 3) := by decide +kernel
theorem dX8_spread_170 : decode cX8_spread 170 = .ok (.iload 4, 2) := by decide +kernel
theorem dX8_spread_172 : decode cX8_spread 172 = .ok (.iload 11, 2) := by decide +kernel
theorem dX8_spread_174 : decode cX8_spread 174 = .ok (.ishr, 1) := by decide +kernel
theorem dX8_spread_175 : decode cX8_spread 175 = .ok (.iconst 1, 1) := by decide +kernel
theorem dX8_spread_176 : decode cX8_spread 176 = .ok (.iand, 1) := by decide +kernel
theorem dX8_spread_177 : decode cX8_spread 177 = .ok (.ifCond .ne 7, 3) := by decide +kernel
theorem dX8_spread_180 : decode cX8_spread 180 = .ok (.iconst 1, 1) := by decide +kernel
theorem dX8_spread_181 : decode cX8_spread 181 = .ok (.goto 4, 3) := by decide +kernel
theorem dX8_spread_184 : decode cX8_spread 184 = .ok (.iconst 0, 1) := by decide +kernel
theorem dX8_spread_185 : decode cX8_spread 185 = .ok (.istore 12, 2) := by decide +kernel
theorem dX8_spread_187 : decode cX8_spread 187 = .ok (.aload_n 0, 1) := by decide +kernel
theorem dX8_spread_188 : decode cX8_spread 188 = .ok (.iload 8, 2) := by decide +kernel
theorem dX8_spread_190 : decode cX8_spread 190 = .ok (.iload 4, 2) := by decide +kernel
theorem dX8_spread_192 : decode cX8_spread 192 = .ok (.iconst 1, 1) := by decide +kernel
theorem dX8_spread_193 : decode cX8_spread 193 = .ok (.iload 10, 2) := by decide +kernel
theorem dX8_spread_195 : decode cX8_spread 195 = .ok (.ishl, 1) := by decide +kernel
theorem dX8_spread_196 : decode cX8_spread 196 = .ok (.ior, 1) := by decide +kernel
theorem dX8_spread_197 : decode cX8_spread 197 = .ok (.iconst 1, 1) := by decide +kernel
theorem dX8_spread_198 : decode cX8_spread 198 = .ok (.iload 11, 2) := by decide +kernel
theorem dX8_spread_200 : decode cX8_spread 200 = .ok (.ishl, 1) := by decide +kernel
theorem dX8_spread_201 : decode cX8_spread 201 = .ok (.ior, 1) := by decide +kernel
theorem dX8_spread_202 : decode cX8_spread 202 = .ok (.aload_n 0, 1) := by decide +kernel
theorem dX8_spread_203 : decode cX8_spread 203 = .ok (.iload_n 1, 1) := by decide +kernel
theorem dX8_spread_204 : decode cX8_spread 204 = .ok (.iconst 1, 1) := by decide +kernel
theorem dX8_spread_205 : decode cX8_spread 205 = .ok (.iadd, 1) := by decide +kernel
theorem dX8_spread_206 : decode cX8_spread 206 = .ok (.iload 5, 2) := by decide +kernel
theorem dX8_spread_208 : decode cX8_spread 208 = .ok (.iconst 1, 1) := by decide +kernel
theorem dX8_spread_209 : decode cX8_spread 209 = .ok (.iload 10, 2) := by decide +kernel
theorem dX8_spread_211 : decode cX8_spread 211 = .ok (.ishl, 1) := by decide +kernel
theorem dX8_spread_212 : decode cX8_spread 212 = .ok (.ior, 1) := by decide +kernel
theorem dX8_spread_213 : decode cX8_spread 213 = .ok (.invokevirtual 288, 3) := by decide +kernel
theorem dX8_spread_216 : decode cX8_spread 216 = .ok (.iload 12, 2) := by decide +kernel
theorem dX8_spread_218 : decode cX8_spread 218 = .ok (.iload_n 3, 1) := by decide +kernel
theorem dX8_spread_219 : decode cX8_spread 219 = .ok (.aload_n 0, 1) := by decide +kernel
theorem dX8_spread_220 : decode cX8_spread 220 = .ok (.getfield 302, 3) := by decide +kernel
theorem dX8_spread_223 : decode cX8_spread 223 = .ok (.ifCond .eq 7, 3) := by decide +kernel
theorem dX8_spread_226 : decode cX8_spread 226 = .ok (.iconst 1, 1) := by decide +kernel
theorem dX8_spread_227 : decode cX8_spread 227 = .ok (.goto 10, 3) := by decide +kernel
theorem dX8_spread_230 : decode cX8_spread 230 = .ok (.aload_n 0, 1) := by decide +kernel
theorem dX8_spread_231 : decode cX8_spread 231 = .ok (.getfield 13, 3) := by decide +kernel
theorem dX8_spread_234 : decode cX8_spread 234 = .ok (.iload 10, 2) := by decide +kernel
theorem dX8_spread_236 : decode cX8_spread 236 = .ok (.iaload, 1) := by decide +kernel
theorem dX8_spread_237 : decode cX8_spread 237 = .ok (.iadd, 1) := by decide +kernel
theorem dX8_spread_238 : decode cX8_spread 238 = .ok (.invokevirtual 315, 3) := by decide +kernel
theorem dX8_spread_241 : decode cX8_spread 241 = .ok (.iinc 9 1, 3) := by decide +kernel
theorem dX8_spread_244 : decode cX8_spread 244 = .ok (.goto (-170), 3) := by decide +kernel
theorem dX8_spread_247 : decode cX8_spread 247 = .ok (.return_, 1) := by decide +kernel
theorem dX8_beginFares_0 : decode cX8_beginFares 0 = .ok (.aload_n 0, 1) := by decide +kernel
theorem dX8_beginFares_1 : decode cX8_beginFares 1 = .ok (.invokevirtual 325, 3) := by decide +kernel
theorem dX8_beginFares_4 : decode cX8_beginFares 4 = .ok (.aload_n 0, 1) := by decide +kernel
theorem dX8_beginFares_5 : decode cX8_beginFares 5 = .ok (.iload_n 1, 1) := by decide +kernel
theorem dX8_beginFares_6 : decode cX8_beginFares 6 = .ok (.putfield 295, 3) := by decide +kernel
theorem dX8_beginFares_9 : decode cX8_beginFares 9 = .ok (.aload_n 0, 1) := by decide +kernel
theorem dX8_beginFares_10 : decode cX8_beginFares 10 = .ok (.iload_n 2, 1) := by decide +kernel
theorem dX8_beginFares_11 : decode cX8_beginFares 11 = .ok (.putfield 302, 3) := by decide +kernel
theorem dX8_beginFares_14 : decode cX8_beginFares 14 = .ok (.iconst 0, 1) := by decide +kernel
theorem dX8_beginFares_15 : decode cX8_beginFares 15 = .ok (.istore_n 3, 1) := by decide +kernel
theorem dX8_beginFares_16 : decode cX8_beginFares 16 = .ok (.iload_n 3, 1) := by decide +kernel
theorem dX8_beginFares_17 : decode cX8_beginFares 17 = .ok (.bipush 64, 2) := by decide +kernel
theorem dX8_beginFares_19 : decode cX8_beginFares 19 = .ok (.if_icmp .ge 16, 3) := by decide +kernel
theorem dX8_beginFares_22 : decode cX8_beginFares 22 = .ok (.aload_n 0, 1) := by decide +kernel
theorem dX8_beginFares_23 : decode cX8_beginFares 23 = .ok (.getfield 106, 3) := by decide +kernel
theorem dX8_beginFares_26 : decode cX8_beginFares 26 = .ok (.iload_n 3, 1) := by decide +kernel
theorem dX8_beginFares_27 : decode cX8_beginFares 27 = .ok (.iconst 0, 1) := by decide +kernel
theorem dX8_beginFares_28 : decode cX8_beginFares 28 = .ok (.bastore, 1) := by decide +kernel
theorem dX8_beginFares_29 : decode cX8_beginFares 29 = .ok (.iinc 3 1, 3) := by decide +kernel
theorem dX8_beginFares_32 : decode cX8_beginFares 32 = .ok (.goto (-16), 3) := by decide +kernel
theorem dX8_beginFares_35 : decode cX8_beginFares 35 = .ok (.return_, 1) := by decide +kernel
theorem dX8_reach_0 : decode cX8_reach 0 = .ok (.aload_n 0, 1) := by decide +kernel
theorem dX8_reach_1 : decode cX8_reach 1 = .ok (.iload_n 1, 1) := by decide +kernel
theorem dX8_reach_2 : decode cX8_reach 2 = .ok (.invokevirtual 328, 3) := by decide +kernel
theorem dX8_reach_5 : decode cX8_reach 5 = .ok (.iconst 1, 1) := by decide +kernel
theorem dX8_reach_6 : decode cX8_reach 6 = .ok (.istore_n 2, 1) := by decide +kernel
theorem dX8_reach_7 : decode cX8_reach 7 = .ok (.iload_n 2, 1) := by decide +kernel
theorem dX8_reach_8 : decode cX8_reach 8 = .ok (.iconst 1, 1) := by decide +kernel
theorem dX8_reach_9 : decode cX8_reach 9 = .ok (.aload_n 0, 1) := by decide +kernel
theorem dX8_reach_10 : decode cX8_reach 10 = .ok (.getfield 7, 3) := by decide +kernel
theorem dX8_reach_13 : decode cX8_reach 13 = .ok (.iconst 0, 1) := by decide +kernel
theorem dX8_reach_14 : decode cX8_reach 14 = .ok (.iaload, 1) := by decide +kernel
theorem dX8_reach_15 : decode cX8_reach 15 = .ok (.ishl, 1) := by decide +kernel
theorem dX8_reach_16 : decode cX8_reach 16 = .ok (.if_icmp .ge 40, 3) := by decide +kernel
theorem dX8_reach_19 : decode cX8_reach 19 = .ok (.aload_n 0, 1) := by decide +kernel
theorem dX8_reach_20 : decode cX8_reach 20 = .ok (.getfield 103, 3) := by decide +kernel
theorem dX8_reach_23 : decode cX8_reach 23 = .ok (.bipush 64, 2) := by decide +kernel
theorem dX8_reach_25 : decode cX8_reach 25 = .ok (.iload_n 1, 1) := by decide +kernel
theorem dX8_reach_26 : decode cX8_reach 26 = .ok (.imul, 1) := by decide +kernel
theorem dX8_reach_27 : decode cX8_reach 27 = .ok (.iload_n 2, 1) := by decide +kernel
theorem dX8_reach_28 : decode cX8_reach 28 = .ok (.iadd, 1) := by decide +kernel
theorem dX8_reach_29 : decode cX8_reach 29 = .ok (.iaload, 1) := by decide +kernel
theorem dX8_reach_30 : decode cX8_reach 30 = .ok (.ldc_w 301, 3) := by decide +kernel
theorem dX8_reach_33 : decode cX8_reach 33 = .ok (.if_icmp .ge 17, 3) := by decide +kernel
theorem dX8_reach_36 : decode cX8_reach 36 = .ok (.aload_n 0, 1) := by decide +kernel
theorem dX8_reach_37 : decode cX8_reach 37 = .ok (.getfield 106, 3) := by decide +kernel
theorem dX8_reach_40 : decode cX8_reach 40 = .ok (.iload_n 2, 1) := by decide +kernel
theorem dX8_reach_41 : decode cX8_reach 41 = .ok (.baload, 1) := by decide +kernel
theorem dX8_reach_42 : decode cX8_reach 42 = .ok (.ifCond .ne 8, 3) := by decide +kernel
theorem dX8_reach_45 : decode cX8_reach 45 = .ok (.aload_n 0, 1) := by decide +kernel
theorem dX8_reach_46 : decode cX8_reach 46 = .ok (.iload_n 2, 1) := by decide +kernel
theorem dX8_reach_47 : decode cX8_reach 47 = .ok (.invokevirtual 331, 3) := by decide +kernel
theorem dX8_reach_50 : decode cX8_reach 50 = .ok (.iinc 2 1, 3) := by decide +kernel
theorem dX8_reach_53 : decode cX8_reach 53 = .ok (.goto (-46), 3) := by decide +kernel
theorem dX8_reach_56 : decode cX8_reach 56 = .ok (.return_, 1) := by decide +kernel
theorem dX8_tellLeast_0 : decode cX8_tellLeast 0 = .ok (.aload_n 0, 1) := by decide +kernel
theorem dX8_tellLeast_1 : decode cX8_tellLeast 1 = .ok (.iload_n 1, 1) := by decide +kernel
theorem dX8_tellLeast_2 : decode cX8_tellLeast 2 = .ok (.invokevirtual 331, 3) := by decide +kernel
theorem dX8_tellLeast_5 : decode cX8_tellLeast 5 = .ok (.iconst 1, 1) := by decide +kernel
theorem dX8_tellLeast_6 : decode cX8_tellLeast 6 = .ok (.aload_n 0, 1) := by decide +kernel
theorem dX8_tellLeast_7 : decode cX8_tellLeast 7 = .ok (.getfield 7, 3) := by decide +kernel
theorem dX8_tellLeast_10 : decode cX8_tellLeast 10 = .ok (.iconst 0, 1) := by decide +kernel
theorem dX8_tellLeast_11 : decode cX8_tellLeast 11 = .ok (.iaload, 1) := by decide +kernel
theorem dX8_tellLeast_12 : decode cX8_tellLeast 12 = .ok (.ishl, 1) := by decide +kernel
theorem dX8_tellLeast_13 : decode cX8_tellLeast 13 = .ok (.istore_n 3, 1) := by decide +kernel
theorem dX8_tellLeast_14 : decode cX8_tellLeast 14 = .ok (.iconst 0, 1) := by decide +kernel
theorem dX8_tellLeast_15 : decode cX8_tellLeast 15 = .ok (.istore 4, 2) := by decide +kernel
theorem dX8_tellLeast_17 : decode cX8_tellLeast 17 = .ok (.iload 4, 2) := by decide +kernel
theorem dX8_tellLeast_19 : decode cX8_tellLeast 19 = .ok (.iload_n 3, 1) := by decide +kernel
theorem dX8_tellLeast_20 : decode cX8_tellLeast 20 = .ok (.if_icmp .ge 17, 3) := by decide +kernel
theorem dX8_tellLeast_23 : decode cX8_tellLeast 23 = .ok (.aload_n 0, 1) := by decide +kernel
theorem dX8_tellLeast_24 : decode cX8_tellLeast 24 = .ok (.getfield 87, 3) := by decide +kernel
theorem dX8_tellLeast_27 : decode cX8_tellLeast 27 = .ok (.iload 4, 2) := by decide +kernel
theorem dX8_tellLeast_29 : decode cX8_tellLeast 29 = .ok (.iconst 0, 1) := by decide +kernel
theorem dX8_tellLeast_30 : decode cX8_tellLeast 30 = .ok (.iastore, 1) := by decide +kernel
theorem dX8_tellLeast_31 : decode cX8_tellLeast 31 = .ok (.iinc 4 1, 3) := by decide +kernel
theorem dX8_tellLeast_34 : decode cX8_tellLeast 34 = .ok (.goto (-17), 3) := by decide +kernel
theorem dX8_tellLeast_37 : decode cX8_tellLeast 37 = .ok (.iconst 0, 1) := by decide +kernel
theorem dX8_tellLeast_38 : decode cX8_tellLeast 38 = .ok (.istore 4, 2) := by decide +kernel
theorem dX8_tellLeast_40 : decode cX8_tellLeast 40 = .ok (.iload 4, 2) := by decide +kernel
theorem dX8_tellLeast_42 : decode cX8_tellLeast 42 = .ok (.iload_n 2, 1) := by decide +kernel
theorem dX8_tellLeast_43 : decode cX8_tellLeast 43 = .ok (.if_icmp .ge 158, 3) := by decide +kernel
theorem dX8_tellLeast_46 : decode cX8_tellLeast 46 = .ok (.iconst 0, 1) := by decide +kernel
theorem dX8_tellLeast_47 : decode cX8_tellLeast 47 = .ok (.istore 5, 2) := by decide +kernel
theorem dX8_tellLeast_49 : decode cX8_tellLeast 49 = .ok (.iload 5, 2) := by decide +kernel
theorem dX8_tellLeast_51 : decode cX8_tellLeast 51 = .ok (.iload_n 3, 1) := by decide +kernel
theorem dX8_tellLeast_52 : decode cX8_tellLeast 52 = .ok (.if_icmp .ge 114, 3) := by decide +kernel
theorem dX8_tellLeast_55 : decode cX8_tellLeast 55 = .ok (.aload_n 0, 1) := by decide +kernel
theorem dX8_tellLeast_56 : decode cX8_tellLeast 56 = .ok (.getfield 90, 3) := by decide +kernel
theorem dX8_tellLeast_59 : decode cX8_tellLeast 59 = .ok (.iload 5, 2) := by decide +kernel
theorem dX8_tellLeast_61 : decode cX8_tellLeast 61 = .ok (.ldc_w 301, 3) := by decide +kernel
theorem dX8_tellLeast_64 : decode cX8_tellLeast 64 = .ok (.iastore, 1) := by decide +kernel
theorem dX8_tellLeast_65 : decode cX8_tellLeast 65 = .ok (.iconst 1, 1) := by decide +kernel
theorem dX8_tellLeast_66 : decode cX8_tellLeast 66 = .ok (.istore 6, 2) := by decide +kernel
theorem dX8_tellLeast_68 : decode cX8_tellLeast 68 = .ok (.iload 6, 2) := by decide +kernel
theorem dX8_tellLeast_70 : decode cX8_tellLeast 70 = .ok (.iload_n 3, 1) := by decide +kernel
theorem dX8_tellLeast_71 : decode cX8_tellLeast 71 = .ok (.if_icmp .ge 89, 3) := by decide +kernel
theorem dX8_tellLeast_74 : decode cX8_tellLeast 74 = .ok (.aload_n 0, 1) := by decide +kernel
theorem dX8_tellLeast_75 : decode cX8_tellLeast 75 = .ok (.getfield 106, 3) := by decide +kernel
theorem dX8_tellLeast_78 : decode cX8_tellLeast 78 = .ok (.iload 5, 2) := by decide +kernel
theorem dX8_tellLeast_80 : decode cX8_tellLeast 80 = .ok (.baload, 1) := by decide +kernel
theorem dX8_tellLeast_81 : decode cX8_tellLeast 81 = .ok (.ifCond .eq 79, 3) := by decide +kernel
theorem dX8_tellLeast_84 : decode cX8_tellLeast 84 = .ok (.aload_n 0, 1) := by decide +kernel
theorem dX8_tellLeast_85 : decode cX8_tellLeast 85 = .ok (.getfield 103, 3) := by decide +kernel
theorem dX8_tellLeast_88 : decode cX8_tellLeast 88 = .ok (.bipush 64, 2) := by decide +kernel
theorem dX8_tellLeast_90 : decode cX8_tellLeast 90 = .ok (.iload 5, 2) := by decide +kernel
theorem dX8_tellLeast_92 : decode cX8_tellLeast 92 = .ok (.imul, 1) := by decide +kernel
theorem dX8_tellLeast_93 : decode cX8_tellLeast 93 = .ok (.iload 6, 2) := by decide +kernel
theorem dX8_tellLeast_95 : decode cX8_tellLeast 95 = .ok (.iadd, 1) := by decide +kernel
theorem dX8_tellLeast_96 : decode cX8_tellLeast 96 = .ok (.iaload, 1) := by decide +kernel
theorem dX8_tellLeast_97 : decode cX8_tellLeast 97 = .ok (.ldc_w 301, 3) := by decide +kernel
theorem dX8_tellLeast_100 : decode cX8_tellLeast 100 = .ok (.if_icmp .ge 54, 3) := by decide +kernel
theorem dX8_tellLeast_103 : decode cX8_tellLeast 103 = .ok (.aload_n 0, 1) := by decide +kernel
theorem dX8_tellLeast_104 : decode cX8_tellLeast 104 = .ok (.getfield 87, 3) := by decide +kernel
theorem dX8_tellLeast_107 : decode cX8_tellLeast 107 = .ok (.iload 6, 2) := by decide +kernel
theorem dX8_tellLeast_109 : decode cX8_tellLeast 109 = .ok (.iaload, 1) := by decide +kernel
theorem dX8_tellLeast_110 : decode cX8_tellLeast 110 = .ok (.ldc_w 301, 3) := by decide +kernel
theorem dX8_tellLeast_113 : decode cX8_tellLeast 113 = .ok (.if_icmp .ge 41, 3) := by decide +kernel
theorem dX8_tellLeast_116 : decode cX8_tellLeast 116 = .ok (.aload_n 0, 1) := by decide +kernel
theorem dX8_tellLeast_117 : decode cX8_tellLeast 117 = .ok (.getfield 90, 3) := by decide +kernel
theorem dX8_tellLeast_120 : decode cX8_tellLeast 120 = .ok (.iload 5, 2) := by decide +kernel
theorem dX8_tellLeast_122 : decode cX8_tellLeast 122 = .ok (.aload_n 0, 1) := by decide +kernel
theorem dX8_tellLeast_123 : decode cX8_tellLeast 123 = .ok (.getfield 90, 3) := by decide +kernel
theorem dX8_tellLeast_126 : decode cX8_tellLeast 126 = .ok (.iload 5, 2) := by decide +kernel
theorem dX8_tellLeast_128 : decode cX8_tellLeast 128 = .ok (.iaload, 1) := by decide +kernel
theorem dX8_tellLeast_129 : decode cX8_tellLeast 129 = .ok (.aload_n 0, 1) := by decide +kernel
theorem dX8_tellLeast_130 : decode cX8_tellLeast 130 = .ok (.getfield 103, 3) := by decide +kernel
theorem dX8_tellLeast_133 : decode cX8_tellLeast 133 = .ok (.bipush 64, 2) := by decide +kernel
theorem dX8_tellLeast_135 : decode cX8_tellLeast 135 = .ok (.iload 5, 2) := by decide +kernel
theorem dX8_tellLeast_137 : decode cX8_tellLeast 137 = .ok (.imul, 1) := by decide +kernel
theorem dX8_tellLeast_138 : decode cX8_tellLeast 138 = .ok (.iload 6, 2) := by decide +kernel
theorem dX8_tellLeast_140 : decode cX8_tellLeast 140 = .ok (.iadd, 1) := by decide +kernel
theorem dX8_tellLeast_141 : decode cX8_tellLeast 141 = .ok (.iaload, 1) := by decide +kernel
theorem dX8_tellLeast_142 : decode cX8_tellLeast 142 = .ok (.aload_n 0, 1) := by decide +kernel
theorem dX8_tellLeast_143 : decode cX8_tellLeast 143 = .ok (.getfield 87, 3) := by decide +kernel
theorem dX8_tellLeast_146 : decode cX8_tellLeast 146 = .ok (.iload 6, 2) := by decide +kernel
theorem dX8_tellLeast_148 : decode cX8_tellLeast 148 = .ok (.iaload, 1) := by decide +kernel
theorem dX8_tellLeast_149 : decode cX8_tellLeast 149 = .ok (.iadd, 1) := by decide +kernel
theorem dX8_tellLeast_150 : decode cX8_tellLeast 150 = .ok (.invokestatic 164, 3) := by decide +kernel
theorem dX8_tellLeast_153 : decode cX8_tellLeast 153 = .ok (.iastore, 1) := by decide +kernel
theorem dX8_tellLeast_154 : decode cX8_tellLeast 154 = .ok (.iinc 6 1, 3) := by decide +kernel
theorem dX8_tellLeast_157 : decode cX8_tellLeast 157 = .ok (.goto (-89), 3) := by decide +kernel
theorem dX8_tellLeast_160 : decode cX8_tellLeast 160 = .ok (.iinc 5 1, 3) := by decide +kernel
theorem dX8_tellLeast_163 : decode cX8_tellLeast 163 = .ok (.goto (-114), 3) := by decide +kernel
theorem dX8_tellLeast_166 : decode cX8_tellLeast 166 = .ok (.iconst 0, 1) := by decide +kernel
theorem dX8_tellLeast_167 : decode cX8_tellLeast 167 = .ok (.istore 5, 2) := by decide +kernel
theorem dX8_tellLeast_169 : decode cX8_tellLeast 169 = .ok (.iload 5, 2) := by decide +kernel
theorem dX8_tellLeast_171 : decode cX8_tellLeast 171 = .ok (.iload_n 3, 1) := by decide +kernel
theorem dX8_tellLeast_172 : decode cX8_tellLeast 172 = .ok (.if_icmp .ge 23, 3) := by decide +kernel
theorem dX8_tellLeast_175 : decode cX8_tellLeast 175 = .ok (.aload_n 0, 1) := by decide +kernel
theorem dX8_tellLeast_176 : decode cX8_tellLeast 176 = .ok (.getfield 87, 3) := by decide +kernel
theorem dX8_tellLeast_179 : decode cX8_tellLeast 179 = .ok (.iload 5, 2) := by decide +kernel
theorem dX8_tellLeast_181 : decode cX8_tellLeast 181 = .ok (.aload_n 0, 1) := by decide +kernel
theorem dX8_tellLeast_182 : decode cX8_tellLeast 182 = .ok (.getfield 90, 3) := by decide +kernel
theorem dX8_tellLeast_185 : decode cX8_tellLeast 185 = .ok (.iload 5, 2) := by decide +kernel
theorem dX8_tellLeast_187 : decode cX8_tellLeast 187 = .ok (.iaload, 1) := by decide +kernel
theorem dX8_tellLeast_188 : decode cX8_tellLeast 188 = .ok (.iastore, 1) := by decide +kernel
theorem dX8_tellLeast_189 : decode cX8_tellLeast 189 = .ok (.iinc 5 1, 3) := by decide +kernel
theorem dX8_tellLeast_192 : decode cX8_tellLeast 192 = .ok (.goto (-23), 3) := by decide +kernel
theorem dX8_tellLeast_195 : decode cX8_tellLeast 195 = .ok (.iinc 4 1, 3) := by decide +kernel
theorem dX8_tellLeast_198 : decode cX8_tellLeast 198 = .ok (.goto (-158), 3) := by decide +kernel
theorem dX8_tellLeast_201 : decode cX8_tellLeast 201 = .ok (.return_, 1) := by decide +kernel
theorem dX8_layRow_0 : decode cX8_layRow 0 = .ok (.iconst 0, 1) := by decide +kernel
theorem dX8_layRow_1 : decode cX8_layRow 1 = .ok (.istore_n 1, 1) := by decide +kernel
theorem dX8_layRow_2 : decode cX8_layRow 2 = .ok (.iconst 0, 1) := by decide +kernel
theorem dX8_layRow_3 : decode cX8_layRow 3 = .ok (.istore_n 2, 1) := by decide +kernel
theorem dX8_layRow_4 : decode cX8_layRow 4 = .ok (.iconst 0, 1) := by decide +kernel
theorem dX8_layRow_5 : decode cX8_layRow 5 = .ok (.istore_n 3, 1) := by decide +kernel
theorem dX8_layRow_6 : decode cX8_layRow 6 = .ok (.iconst 0, 1) := by decide +kernel
theorem dX8_layRow_7 : decode cX8_layRow 7 = .ok (.istore 4, 2) := by decide +kernel
theorem dX8_layRow_9 : decode cX8_layRow 9 = .ok (.iload 4, 2) := by decide +kernel
theorem dX8_layRow_11 : decode cX8_layRow 11 = .ok (.aload_n 0, 1) := by decide +kernel
theorem dX8_layRow_12 : decode cX8_layRow 12 = .ok (.getfield 7, 3) := by decide +kernel
theorem dX8_layRow_15 : decode cX8_layRow 15 = .ok (.iconst 1, 1) := by decide +kernel
theorem dX8_layRow_16 : decode cX8_layRow 16 = .ok (.iaload, 1) := by decide +kernel
theorem dX8_layRow_17 : decode cX8_layRow 17 = .ok (.if_icmp .ge 183, 3) := by decide +kernel
theorem dX8_layRow_20 : decode cX8_layRow 20 = .ok (.iconst 0, 1) := by decide +kernel
theorem dX8_layRow_21 : decode cX8_layRow 21 = .ok (.istore 5, 2) := by decide +kernel
theorem dX8_layRow_23 : decode cX8_layRow 23 = .ok (.aload_n 0, 1) := by decide +kernel
theorem dX8_layRow_24 : decode cX8_layRow 24 = .ok (.iload 4, 2) := by decide +kernel
theorem dX8_layRow_26 : decode cX8_layRow 26 = .ok (.iload_n 1, 1) := by decide +kernel
theorem dX8_layRow_27 : decode cX8_layRow 27 = .ok (.iload_n 2, 1) := by decide +kernel
theorem dX8_layRow_28 : decode cX8_layRow 28 = .ok (.iload_n 3, 1) := by decide +kernel
theorem dX8_layRow_29 : decode cX8_layRow 29 = .ok (.iload 5, 2) := by decide +kernel
theorem dX8_layRow_31 : decode cX8_layRow 31 = .ok (.invokevirtual 305, 3) := by decide +kernel
theorem dX8_layRow_34 : decode cX8_layRow 34 = .ok (.aload_n 0, 1) := by decide +kernel
theorem dX8_layRow_35 : decode cX8_layRow 35 = .ok (.getfield 100, 3) := by decide +kernel
theorem dX8_layRow_38 : decode cX8_layRow 38 = .ok (.iload 4, 2) := by decide +kernel
theorem dX8_layRow_40 : decode cX8_layRow 40 = .ok (.iload_n 1, 1) := by decide +kernel
theorem dX8_layRow_41 : decode cX8_layRow 41 = .ok (.iload_n 2, 1) := by decide +kernel
theorem dX8_layRow_42 : decode cX8_layRow 42 = .ok (.iload_n 3, 1) := by decide +kernel
theorem dX8_layRow_43 : decode cX8_layRow 43 = .ok (.invokestatic 291, 3) := by decide +kernel
theorem dX8_layRow_46 : decode cX8_layRow 46 = .ok (.iaload, 1) := by decide +kernel
theorem dX8_layRow_47 : decode cX8_layRow 47 = .ok (.if_icmp .eq 9, 3) := by decide +kernel
theorem dX8_layRow_50 : decode cX8_layRow 50 = .ok (.iinc 5 1, 3) := by decide +kernel
theorem dX8_layRow_53 : decode cX8_layRow 53 = .ok (.goto (-30), 3) := by decide +kernel
theorem dX8_layRow_56 : decode cX8_layRow 56 = .ok (.aload_n 0, 1) := by decide +kernel
theorem dX8_layRow_57 : decode cX8_layRow 57 = .ok (.getfield 93, 3) := by decide +kernel
theorem dX8_layRow_60 : decode cX8_layRow 60 = .ok (.aload_n 0, 1) := by decide +kernel
theorem dX8_layRow_61 : decode cX8_layRow 61 = .ok (.getfield 84, 3) := by decide +kernel
theorem dX8_layRow_64 : decode cX8_layRow 64 = .ok (.iload 4, 2) := by decide +kernel
theorem dX8_layRow_66 : decode cX8_layRow 66 = .ok (.iaload, 1) := by decide +kernel
theorem dX8_layRow_67 : decode cX8_layRow 67 = .ok (.iload 5, 2) := by decide +kernel
theorem dX8_layRow_69 : decode cX8_layRow 69 = .ok (.iastore, 1) := by decide +kernel
theorem dX8_layRow_70 : decode cX8_layRow 70 = .ok (.iload 5, 2) := by decide +kernel
theorem dX8_layRow_72 : decode cX8_layRow 72 = .ok (.iconst 1, 1) := by decide +kernel
theorem dX8_layRow_73 : decode cX8_layRow 73 = .ok (.if_icmp .ne 18, 3) := by decide +kernel
theorem dX8_layRow_76 : decode cX8_layRow 76 = .ok (.aload_n 0, 1) := by decide +kernel
theorem dX8_layRow_77 : decode cX8_layRow 77 = .ok (.getfield 16, 3) := by decide +kernel
theorem dX8_layRow_80 : decode cX8_layRow 80 = .ok (.aload_n 0, 1) := by decide +kernel
theorem dX8_layRow_81 : decode cX8_layRow 81 = .ok (.getfield 84, 3) := by decide +kernel
theorem dX8_layRow_84 : decode cX8_layRow 84 = .ok (.iload 4, 2) := by decide +kernel
theorem dX8_layRow_86 : decode cX8_layRow 86 = .ok (.iaload, 1) := by decide +kernel
theorem dX8_layRow_87 : decode cX8_layRow 87 = .ok (.iaload, 1) := by decide +kernel
theorem dX8_layRow_88 : decode cX8_layRow 88 = .ok (.goto 15, 3) := by decide +kernel
theorem dX8_layRow_91 : decode cX8_layRow 91 = .ok (.aload_n 0, 1) := by decide +kernel
theorem dX8_layRow_92 : decode cX8_layRow 92 = .ok (.getfield 19, 3) := by decide +kernel
theorem dX8_layRow_95 : decode cX8_layRow 95 = .ok (.aload_n 0, 1) := by decide +kernel
theorem dX8_layRow_96 : decode cX8_layRow 96 = .ok (.getfield 84, 3) := by decide +kernel
theorem dX8_layRow_99 : decode cX8_layRow 99 = .ok (.iload 4, 2) := by decide +kernel
theorem dX8_layRow_101 : decode cX8_layRow 101 = .ok (.iaload, 1) := by decide +kernel
theorem dX8_layRow_102 : decode cX8_layRow 102 = .ok (.iaload, 1) := by decide +kernel
theorem dX8_layRow_103 : decode cX8_layRow 103 = .ok (.istore 6, 2) := by decide +kernel
theorem dX8_layRow_105 : decode cX8_layRow 105 = .ok (.iload 5, 2) := by decide +kernel
theorem dX8_layRow_107 : decode cX8_layRow 107 = .ok (.iconst 1, 1) := by decide +kernel
theorem dX8_layRow_108 : decode cX8_layRow 108 = .ok (.if_icmp .ne 18, 3) := by decide +kernel
theorem dX8_layRow_111 : decode cX8_layRow 111 = .ok (.aload_n 0, 1) := by decide +kernel
theorem dX8_layRow_112 : decode cX8_layRow 112 = .ok (.getfield 19, 3) := by decide +kernel
theorem dX8_layRow_115 : decode cX8_layRow 115 = .ok (.aload_n 0, 1) := by decide +kernel
theorem dX8_layRow_116 : decode cX8_layRow 116 = .ok (.getfield 84, 3) := by decide +kernel
theorem dX8_layRow_119 : decode cX8_layRow 119 = .ok (.iload 4, 2) := by decide +kernel
theorem dX8_layRow_121 : decode cX8_layRow 121 = .ok (.iaload, 1) := by decide +kernel
theorem dX8_layRow_122 : decode cX8_layRow 122 = .ok (.iaload, 1) := by decide +kernel
theorem dX8_layRow_123 : decode cX8_layRow 123 = .ok (.goto 15, 3) := by decide +kernel
theorem dX8_layRow_126 : decode cX8_layRow 126 = .ok (.aload_n 0, 1) := by decide +kernel
theorem dX8_layRow_127 : decode cX8_layRow 127 = .ok (.getfield 16, 3) := by decide +kernel
theorem dX8_layRow_130 : decode cX8_layRow 130 = .ok (.aload_n 0, 1) := by decide +kernel
theorem dX8_layRow_131 : decode cX8_layRow 131 = .ok (.getfield 84, 3) := by decide +kernel
theorem dX8_layRow_134 : decode cX8_layRow 134 = .ok (.iload 4, 2) := by decide +kernel
theorem dX8_layRow_136 : decode cX8_layRow 136 = .ok (.iaload, 1) := by decide +kernel
theorem dX8_layRow_137 : decode cX8_layRow 137 = .ok (.iaload, 1) := by decide +kernel
theorem dX8_layRow_138 : decode cX8_layRow 138 = .ok (.istore 7, 2) := by decide +kernel
theorem dX8_layRow_140 : decode cX8_layRow 140 = .ok (.iload 5, 2) := by decide +kernel
theorem dX8_layRow_142 : decode cX8_layRow 142 = .ok (.ifCond .le 42, 3) := by decide +kernel
theorem dX8_layRow_145 : decode cX8_layRow 145 = .ok (.iload_n 3, 1) := by decide +kernel
theorem dX8_layRow_146 : decode cX8_layRow 146 = .ok (.iconst 1, 1) := by decide +kernel
theorem dX8_layRow_147 : decode cX8_layRow 147 = .ok (.if_icmp .eq 12, 3) := by decide +kernel
theorem dX8_layRow_150 : decode cX8_layRow 150 = .ok (.iload_n 1, 1) := by decide +kernel
theorem dX8_layRow_151 : decode cX8_layRow 151 = .ok (.iload 7, 2) := by decide +kernel
theorem dX8_layRow_153 : decode cX8_layRow 153 = .ok (.ishr, 1) := by decide +kernel
theorem dX8_layRow_154 : decode cX8_layRow 154 = .ok (.iconst 1, 1) := by decide +kernel
theorem dX8_layRow_155 : decode cX8_layRow 155 = .ok (.iand, 1) := by decide +kernel
theorem dX8_layRow_156 : decode cX8_layRow 156 = .ok (.ifCond .ne 7, 3) := by decide +kernel
theorem dX8_layRow_159 : decode cX8_layRow 159 = .ok (.iconst 1, 1) := by decide +kernel
theorem dX8_layRow_160 : decode cX8_layRow 160 = .ok (.goto 4, 3) := by decide +kernel
theorem dX8_layRow_163 : decode cX8_layRow 163 = .ok (.iconst 0, 1) := by decide +kernel
theorem dX8_layRow_164 : decode cX8_layRow 164 = .ok (.istore_n 3, 1) := by decide +kernel
theorem dX8_layRow_165 : decode cX8_layRow 165 = .ok (.iload_n 1, 1) := by decide +kernel
theorem dX8_layRow_166 : decode cX8_layRow 166 = .ok (.iconst 1, 1) := by decide +kernel
theorem dX8_layRow_167 : decode cX8_layRow 167 = .ok (.iload 6, 2) := by decide +kernel
theorem dX8_layRow_169 : decode cX8_layRow 169 = .ok (.ishl, 1) := by decide +kernel
theorem dX8_layRow_170 : decode cX8_layRow 170 = .ok (.iconst 1, 1) := by decide +kernel
theorem dX8_layRow_171 : decode cX8_layRow 171 = .ok (.iload 7, 2) := by decide +kernel
theorem dX8_layRow_173 : decode cX8_layRow 173 = .ok (.ishl, 1) := by decide +kernel
theorem dX8_layRow_174 : decode cX8_layRow 174 = .ok (.ior, 1) := by decide +kernel
theorem dX8_layRow_175 : decode cX8_layRow 175 = .ok (.ior, 1) := by decide +kernel
theorem dX8_layRow_176 : decode cX8_layRow 176 = .ok (.istore_n 1, 1) := by decide +kernel
theorem dX8_layRow_177 : decode cX8_layRow 177 = .ok (.iload_n 2, 1) := by decide +kernel
theorem dX8_layRow_178 : decode cX8_layRow 178 = .ok (.iconst 1, 1) := by decide +kernel
theorem dX8_layRow_179 : decode cX8_layRow 179 = .ok (.iload 6, 2) := by decide +kernel
theorem dX8_layRow_181 : decode cX8_layRow 181 = .ok (.ishl, 1) := by decide +kernel
theorem dX8_layRow_182 : decode cX8_layRow 182 = .ok (.ior, 1) := by decide +kernel
theorem dX8_layRow_183 : decode cX8_layRow 183 = .ok (.istore_n 2, 1) := by decide +kernel
theorem dX8_layRow_184 : decode cX8_layRow 184 = .ok (.aload_n 0, 1) := by decide +kernel
theorem dX8_layRow_185 : decode cX8_layRow 185 = .ok (.iload 4, 2) := by decide +kernel
theorem dX8_layRow_187 : decode cX8_layRow 187 = .ok (.iconst 1, 1) := by decide +kernel
theorem dX8_layRow_188 : decode cX8_layRow 188 = .ok (.iadd, 1) := by decide +kernel
theorem dX8_layRow_189 : decode cX8_layRow 189 = .ok (.iload_n 2, 1) := by decide +kernel
theorem dX8_layRow_190 : decode cX8_layRow 190 = .ok (.invokevirtual 288, 3) := by decide +kernel
theorem dX8_layRow_193 : decode cX8_layRow 193 = .ok (.istore_n 2, 1) := by decide +kernel
theorem dX8_layRow_194 : decode cX8_layRow 194 = .ok (.iinc 4 1, 3) := by decide +kernel
theorem dX8_layRow_197 : decode cX8_layRow 197 = .ok (.goto (-188), 3) := by decide +kernel
theorem dX8_layRow_200 : decode cX8_layRow 200 = .ok (.iconst 0, 1) := by decide +kernel
theorem dX8_layRow_201 : decode cX8_layRow 201 = .ok (.istore 4, 2) := by decide +kernel
theorem dX8_layRow_203 : decode cX8_layRow 203 = .ok (.iload 4, 2) := by decide +kernel
theorem dX8_layRow_205 : decode cX8_layRow 205 = .ok (.bipush 12, 2) := by decide +kernel
theorem dX8_layRow_207 : decode cX8_layRow 207 = .ok (.if_icmp .ge 23, 3) := by decide +kernel
theorem dX8_layRow_210 : decode cX8_layRow 210 = .ok (.aload_n 0, 1) := by decide +kernel
theorem dX8_layRow_211 : decode cX8_layRow 211 = .ok (.getfield 96, 3) := by decide +kernel
theorem dX8_layRow_214 : decode cX8_layRow 214 = .ok (.iload 4, 2) := by decide +kernel
theorem dX8_layRow_216 : decode cX8_layRow 216 = .ok (.aload_n 0, 1) := by decide +kernel
theorem dX8_layRow_217 : decode cX8_layRow 217 = .ok (.getfield 93, 3) := by decide +kernel
theorem dX8_layRow_220 : decode cX8_layRow 220 = .ok (.iload 4, 2) := by decide +kernel
theorem dX8_layRow_222 : decode cX8_layRow 222 = .ok (.iaload, 1) := by decide +kernel
theorem dX8_layRow_223 : decode cX8_layRow 223 = .ok (.iastore, 1) := by decide +kernel
theorem dX8_layRow_224 : decode cX8_layRow 224 = .ok (.iinc 4 1, 3) := by decide +kernel
theorem dX8_layRow_227 : decode cX8_layRow 227 = .ok (.goto (-24), 3) := by decide +kernel
theorem dX8_layRow_230 : decode cX8_layRow 230 = .ok (.aload_n 0, 1) := by decide +kernel
theorem dX8_layRow_231 : decode cX8_layRow 231 = .ok (.iconst 1, 1) := by decide +kernel
theorem dX8_layRow_232 : decode cX8_layRow 232 = .ok (.putfield 245, 3) := by decide +kernel
theorem dX8_layRow_235 : decode cX8_layRow 235 = .ok (.return_, 1) := by decide +kernel
theorem dX8_isSets_0 : decode cX8_isSets 0 = .ok (.iload_n 1, 1) := by decide +kernel
theorem dX8_isSets_1 : decode cX8_isSets 1 = .ok (.iconst 0, 1) := by decide +kernel
theorem dX8_isSets_2 : decode cX8_isSets 2 = .ok (.iconst 1, 1) := by decide +kernel
theorem dX8_isSets_3 : decode cX8_isSets 3 = .ok (.aload_n 0, 1) := by decide +kernel
theorem dX8_isSets_4 : decode cX8_isSets 4 = .ok (.getfield 7, 3) := by decide +kernel
theorem dX8_isSets_7 : decode cX8_isSets 7 = .ok (.iconst 0, 1) := by decide +kernel
theorem dX8_isSets_8 : decode cX8_isSets 8 = .ok (.iaload, 1) := by decide +kernel
theorem dX8_isSets_9 : decode cX8_isSets 9 = .ok (.ishl, 1) := by decide +kernel
theorem dX8_isSets_10 : decode cX8_isSets 10 = .ok (.iconst 1, 1) := by decide +kernel
theorem dX8_isSets_11 : decode cX8_isSets 11 = .ok (.isub, 1) := by decide +kernel
theorem dX8_isSets_12 : decode cX8_isSets 12 = .ok (.invokestatic 131, 3) := by decide +kernel
theorem dX8_isSets_15 : decode cX8_isSets 15 = .ok (.ireturn, 1) := by decide +kernel
theorem dX8_keep_0 : decode cX8_keep 0 = .ok (.aload_n 0, 1) := by decide +kernel
theorem dX8_keep_1 : decode cX8_keep 1 = .ok (.iconst 0, 1) := by decide +kernel
theorem dX8_keep_2 : decode cX8_keep 2 = .ok (.putfield 128, 3) := by decide +kernel
theorem dX8_keep_5 : decode cX8_keep 5 = .ok (.aload_n 0, 1) := by decide +kernel
theorem dX8_keep_6 : decode cX8_keep 6 = .ok (.iload_n 1, 1) := by decide +kernel
theorem dX8_keep_7 : decode cX8_keep 7 = .ok (.invokevirtual 258, 3) := by decide +kernel
theorem dX8_keep_10 : decode cX8_keep 10 = .ok (.ifCond .eq 24, 3) := by decide +kernel
theorem dX8_keep_13 : decode cX8_keep 13 = .ok (.aload_n 0, 1) := by decide +kernel
theorem dX8_keep_14 : decode cX8_keep 14 = .ok (.getfield 68, 3) := by decide +kernel
theorem dX8_keep_17 : decode cX8_keep 17 = .ok (.iload_n 1, 1) := by decide +kernel
theorem dX8_keep_18 : decode cX8_keep 18 = .ok (.iaload, 1) := by decide +kernel
theorem dX8_keep_19 : decode cX8_keep 19 = .ok (.iconst 1, 1) := by decide +kernel
theorem dX8_keep_20 : decode cX8_keep 20 = .ok (.if_icmp .ne 14, 3) := by decide +kernel
theorem dX8_keep_23 : decode cX8_keep 23 = .ok (.iload 4, 2) := by decide +kernel
theorem dX8_keep_25 : decode cX8_keep 25 = .ok (.ifCond .lt 9, 3) := by decide +kernel
theorem dX8_keep_28 : decode cX8_keep 28 = .ok (.iload 4, 2) := by decide +kernel
theorem dX8_keep_30 : decode cX8_keep 30 = .ok (.iconst 1, 1) := by decide +kernel
theorem dX8_keep_31 : decode cX8_keep 31 = .ok (.if_icmp .le 9, 3) := by decide +kernel
theorem dX8_keep_34 : decode cX8_keep 34 = .ok (.aload_n 0, 1) := by decide +kernel
theorem dX8_keep_35 : decode cX8_keep 35 = .ok (.iconst 1, 1) := by decide +kernel
theorem dX8_keep_36 : decode cX8_keep 36 = .ok (.invokevirtual 232, 3) := by decide +kernel
theorem dX8_keep_39 : decode cX8_keep 39 = .ok (.ireturn, 1) := by decide +kernel
theorem dX8_keep_40 : decode cX8_keep 40 = .ok (.iload_n 2, 1) := by decide +kernel
theorem dX8_keep_41 : decode cX8_keep 41 = .ok (.iconst 1, 1) := by decide +kernel
theorem dX8_keep_42 : decode cX8_keep 42 = .ok (.sipush 400, 3) := by decide +kernel
theorem dX8_keep_45 : decode cX8_keep 45 = .ok (.invokestatic 131, 3) := by decide +kernel
theorem dX8_keep_48 : decode cX8_keep 48 = .ok (.ifCond .eq 11, 3) := by decide +kernel
theorem dX8_keep_51 : decode cX8_keep 51 = .ok (.aload_n 0, 1) := by decide +kernel
theorem dX8_keep_52 : decode cX8_keep 52 = .ok (.iload_n 3, 1) := by decide +kernel
theorem dX8_keep_53 : decode cX8_keep 53 = .ok (.invokevirtual 334, 3) := by decide +kernel
theorem dX8_keep_56 : decode cX8_keep 56 = .ok (.ifCond .ne 9, 3) := by decide +kernel
theorem dX8_keep_59 : decode cX8_keep 59 = .ok (.aload_n 0, 1) := by decide +kernel
theorem dX8_keep_60 : decode cX8_keep 60 = .ok (.iconst 2, 1) := by decide +kernel
theorem dX8_keep_61 : decode cX8_keep 61 = .ok (.invokevirtual 232, 3) := by decide +kernel
theorem dX8_keep_64 : decode cX8_keep 64 = .ok (.ireturn, 1) := by decide +kernel
theorem dX8_keep_65 : decode cX8_keep 65 = .ok (.aload_n 0, 1) := by decide +kernel
theorem dX8_keep_66 : decode cX8_keep 66 = .ok (.iload_n 3, 1) := by decide +kernel
theorem dX8_keep_67 : decode cX8_keep 67 = .ok (.iload 4, 2) := by decide +kernel
theorem dX8_keep_69 : decode cX8_keep 69 = .ok (.iconst 1, 1) := by decide +kernel
theorem dX8_keep_70 : decode cX8_keep 70 = .ok (.if_icmp .ne 7, 3) := by decide +kernel
theorem dX8_keep_73 : decode cX8_keep 73 = .ok (.iconst 1, 1) := by decide +kernel
theorem dX8_keep_74 : decode cX8_keep 74 = .ok (.goto 4, 3) := by decide +kernel
theorem dX8_keep_77 : decode cX8_keep 77 = .ok (.iconst 0, 1) := by decide +kernel
theorem dX8_keep_78 : decode cX8_keep 78 = .ok (.invokevirtual 337, 3) := by decide +kernel
theorem dX8_keep_81 : decode cX8_keep 81 = .ok (.aload_n 0, 1) := by decide +kernel
theorem dX8_keep_82 : decode cX8_keep 82 = .ok (.aload_n 0, 1) := by decide +kernel
theorem dX8_keep_83 : decode cX8_keep 83 = .ok (.getfield 74, 3) := by decide +kernel
theorem dX8_keep_86 : decode cX8_keep 86 = .ok (.iload_n 1, 1) := by decide +kernel
theorem dX8_keep_87 : decode cX8_keep 87 = .ok (.iaload, 1) := by decide +kernel
theorem dX8_keep_88 : decode cX8_keep 88 = .ok (.iload_n 2, 1) := by decide +kernel
theorem dX8_keep_89 : decode cX8_keep 89 = .ok (.iconst 1, 1) := by decide +kernel
theorem dX8_keep_90 : decode cX8_keep 90 = .ok (.isub, 1) := by decide +kernel
theorem dX8_keep_91 : decode cX8_keep 91 = .ok (.invokevirtual 341, 3) := by decide +kernel
theorem dX8_keep_94 : decode cX8_keep 94 = .ok (.aload_n 0, 1) := by decide +kernel
theorem dX8_keep_95 : decode cX8_keep 95 = .ok (.aload_n 0, 1) := by decide +kernel
theorem dX8_keep_96 : decode cX8_keep 96 = .ok (.getfield 74, 3) := by decide +kernel
theorem dX8_keep_99 : decode cX8_keep 99 = .ok (.iload_n 1, 1) := by decide +kernel
theorem dX8_keep_100 : decode cX8_keep 100 = .ok (.iaload, 1) := by decide +kernel
theorem dX8_keep_101 : decode cX8_keep 101 = .ok (.invokevirtual 344, 3) := by decide +kernel
theorem dX8_keep_104 : decode cX8_keep 104 = .ok (.aload_n 0, 1) := by decide +kernel
theorem dX8_keep_105 : decode cX8_keep 105 = .ok (.getfield 100, 3) := by decide +kernel
theorem dX8_keep_108 : decode cX8_keep 108 = .ok (.iconst 0, 1) := by decide +kernel
theorem dX8_keep_109 : decode cX8_keep 109 = .ok (.iconst 0, 1) := by decide +kernel
theorem dX8_keep_110 : decode cX8_keep 110 = .ok (.iconst 0, 1) := by decide +kernel
theorem dX8_keep_111 : decode cX8_keep 111 = .ok (.iconst 0, 1) := by decide +kernel
theorem dX8_keep_112 : decode cX8_keep 112 = .ok (.invokestatic 291, 3) := by decide +kernel
theorem dX8_keep_115 : decode cX8_keep 115 = .ok (.iaload, 1) := by decide +kernel
theorem dX8_keep_116 : decode cX8_keep 116 = .ok (.istore 5, 2) := by decide +kernel
theorem dX8_keep_118 : decode cX8_keep 118 = .ok (.iload 5, 2) := by decide +kernel
theorem dX8_keep_120 : decode cX8_keep 120 = .ok (.ldc_w 301, 3) := by decide +kernel
theorem dX8_keep_123 : decode cX8_keep 123 = .ok (.if_icmp .ne 5, 3) := by decide +kernel
theorem dX8_keep_126 : decode cX8_keep 126 = .ok (.iconst (-1), 1) := by decide +kernel
theorem dX8_keep_127 : decode cX8_keep 127 = .ok (.ireturn, 1) := by decide +kernel
theorem dX8_keep_128 : decode cX8_keep 128 = .ok (.aload_n 0, 1) := by decide +kernel
theorem dX8_keep_129 : decode cX8_keep 129 = .ok (.invokevirtual 347, 3) := by decide +kernel
theorem dX8_keep_132 : decode cX8_keep 132 = .ok (.iload 5, 2) := by decide +kernel
theorem dX8_keep_134 : decode cX8_keep 134 = .ok (.ireturn, 1) := by decide +kernel
theorem dX8_kept_0 : decode cX8_kept 0 = .ok (.aload_n 0, 1) := by decide +kernel
theorem dX8_kept_1 : decode cX8_kept 1 = .ok (.iconst 0, 1) := by decide +kernel
theorem dX8_kept_2 : decode cX8_kept 2 = .ok (.putfield 128, 3) := by decide +kernel
theorem dX8_kept_5 : decode cX8_kept 5 = .ok (.aload_n 0, 1) := by decide +kernel
theorem dX8_kept_6 : decode cX8_kept 6 = .ok (.getfield 245, 3) := by decide +kernel
theorem dX8_kept_9 : decode cX8_kept 9 = .ok (.ifCond .eq 20, 3) := by decide +kernel
theorem dX8_kept_12 : decode cX8_kept 12 = .ok (.aload_n 0, 1) := by decide +kernel
theorem dX8_kept_13 : decode cX8_kept 13 = .ok (.iload_n 1, 1) := by decide +kernel
theorem dX8_kept_14 : decode cX8_kept 14 = .ok (.invokevirtual 255, 3) := by decide +kernel
theorem dX8_kept_17 : decode cX8_kept 17 = .ok (.ifCond .eq 12, 3) := by decide +kernel
theorem dX8_kept_20 : decode cX8_kept 20 = .ok (.aload_n 0, 1) := by decide +kernel
theorem dX8_kept_21 : decode cX8_kept 21 = .ok (.getfield 96, 3) := by decide +kernel
theorem dX8_kept_24 : decode cX8_kept 24 = .ok (.iload_n 1, 1) := by decide +kernel
theorem dX8_kept_25 : decode cX8_kept 25 = .ok (.iaload, 1) := by decide +kernel
theorem dX8_kept_26 : decode cX8_kept 26 = .ok (.goto 8, 3) := by decide +kernel
theorem dX8_kept_29 : decode cX8_kept 29 = .ok (.aload_n 0, 1) := by decide +kernel
theorem dX8_kept_30 : decode cX8_kept 30 = .ok (.iconst 1, 1) := by decide +kernel
theorem dX8_kept_31 : decode cX8_kept 31 = .ok (.invokevirtual 232, 3) := by decide +kernel
theorem dX8_kept_34 : decode cX8_kept 34 = .ok (.ireturn, 1) := by decide +kernel
theorem dX8_daysOf_0 : decode cX8_daysOf 0 = .ok (.aload_n 0, 1) := by decide +kernel
theorem dX8_daysOf_1 : decode cX8_daysOf 1 = .ok (.iload_n 2, 1) := by decide +kernel
theorem dX8_daysOf_2 : decode cX8_daysOf 2 = .ok (.iconst 1, 1) := by decide +kernel
theorem dX8_daysOf_3 : decode cX8_daysOf 3 = .ok (.invokevirtual 337, 3) := by decide +kernel
theorem dX8_daysOf_6 : decode cX8_daysOf 6 = .ok (.aload_n 0, 1) := by decide +kernel
theorem dX8_daysOf_7 : decode cX8_daysOf 7 = .ok (.iload_n 1, 1) := by decide +kernel
theorem dX8_daysOf_8 : decode cX8_daysOf 8 = .ok (.invokevirtual 331, 3) := by decide +kernel
theorem dX8_daysOf_11 : decode cX8_daysOf 11 = .ok (.iconst 1, 1) := by decide +kernel
theorem dX8_daysOf_12 : decode cX8_daysOf 12 = .ok (.aload_n 0, 1) := by decide +kernel
theorem dX8_daysOf_13 : decode cX8_daysOf 13 = .ok (.getfield 7, 3) := by decide +kernel
theorem dX8_daysOf_16 : decode cX8_daysOf 16 = .ok (.iconst 0, 1) := by decide +kernel
theorem dX8_daysOf_17 : decode cX8_daysOf 17 = .ok (.iaload, 1) := by decide +kernel
theorem dX8_daysOf_18 : decode cX8_daysOf 18 = .ok (.ishl, 1) := by decide +kernel
theorem dX8_daysOf_19 : decode cX8_daysOf 19 = .ok (.istore 4, 2) := by decide +kernel
theorem dX8_daysOf_21 : decode cX8_daysOf 21 = .ok (.iconst 0, 1) := by decide +kernel
theorem dX8_daysOf_22 : decode cX8_daysOf 22 = .ok (.istore 5, 2) := by decide +kernel
theorem dX8_daysOf_24 : decode cX8_daysOf 24 = .ok (.iload 5, 2) := by decide +kernel
theorem dX8_daysOf_26 : decode cX8_daysOf 26 = .ok (.iload 4, 2) := by decide +kernel
theorem dX8_daysOf_28 : decode cX8_daysOf 28 = .ok (.if_icmp .ge 27, 3) := by decide +kernel
theorem dX8_daysOf_31 : decode cX8_daysOf 31 = .ok (.aload_n 0, 1) := by decide +kernel
theorem dX8_daysOf_32 : decode cX8_daysOf 32 = .ok (.getfield 87, 3) := by decide +kernel
theorem dX8_daysOf_35 : decode cX8_daysOf 35 = .ok (.iload 5, 2) := by decide +kernel
theorem dX8_daysOf_37 : decode cX8_daysOf 37 = .ok (.iload 5, 2) := by decide +kernel
theorem dX8_daysOf_39 : decode cX8_daysOf 39 = .ok (.iload_n 1, 1) := by decide +kernel
theorem dX8_daysOf_40 : decode cX8_daysOf 40 = .ok (.if_icmp .ne 7, 3) := by decide +kernel
theorem dX8_daysOf_43 : decode cX8_daysOf 43 = .ok (.iconst 1, 1) := by decide +kernel
theorem dX8_daysOf_44 : decode cX8_daysOf 44 = .ok (.goto 4, 3) := by decide +kernel
theorem dX8_daysOf_47 : decode cX8_daysOf 47 = .ok (.iconst 0, 1) := by decide +kernel
theorem dX8_daysOf_48 : decode cX8_daysOf 48 = .ok (.iastore, 1) := by decide +kernel
theorem dX8_daysOf_49 : decode cX8_daysOf 49 = .ok (.iinc 5 1, 3) := by decide +kernel
theorem dX8_daysOf_52 : decode cX8_daysOf 52 = .ok (.goto (-28), 3) := by decide +kernel
theorem dX8_daysOf_55 : decode cX8_daysOf 55 = .ok (.iconst 0, 1) := by decide +kernel
theorem dX8_daysOf_56 : decode cX8_daysOf 56 = .ok (.istore 5, 2) := by decide +kernel
theorem dX8_daysOf_58 : decode cX8_daysOf 58 = .ok (.iload 5, 2) := by decide +kernel
theorem dX8_daysOf_60 : decode cX8_daysOf 60 = .ok (.iload_n 3, 1) := by decide +kernel
theorem dX8_daysOf_61 : decode cX8_daysOf 61 = .ok (.if_icmp .ge 150, 3) := by decide +kernel
theorem dX8_daysOf_64 : decode cX8_daysOf 64 = .ok (.iconst 0, 1) := by decide +kernel
theorem dX8_daysOf_65 : decode cX8_daysOf 65 = .ok (.istore 6, 2) := by decide +kernel
theorem dX8_daysOf_67 : decode cX8_daysOf 67 = .ok (.iconst 0, 1) := by decide +kernel
theorem dX8_daysOf_68 : decode cX8_daysOf 68 = .ok (.istore 7, 2) := by decide +kernel
theorem dX8_daysOf_70 : decode cX8_daysOf 70 = .ok (.iload 7, 2) := by decide +kernel
theorem dX8_daysOf_72 : decode cX8_daysOf 72 = .ok (.iload 4, 2) := by decide +kernel
theorem dX8_daysOf_74 : decode cX8_daysOf 74 = .ok (.if_icmp .ge 17, 3) := by decide +kernel
theorem dX8_daysOf_77 : decode cX8_daysOf 77 = .ok (.aload_n 0, 1) := by decide +kernel
theorem dX8_daysOf_78 : decode cX8_daysOf 78 = .ok (.getfield 90, 3) := by decide +kernel
theorem dX8_daysOf_81 : decode cX8_daysOf 81 = .ok (.iload 7, 2) := by decide +kernel
theorem dX8_daysOf_83 : decode cX8_daysOf 83 = .ok (.iconst 0, 1) := by decide +kernel
theorem dX8_daysOf_84 : decode cX8_daysOf 84 = .ok (.iastore, 1) := by decide +kernel
theorem dX8_daysOf_85 : decode cX8_daysOf 85 = .ok (.iinc 7 1, 3) := by decide +kernel
theorem dX8_daysOf_88 : decode cX8_daysOf 88 = .ok (.goto (-18), 3) := by decide +kernel
theorem dX8_daysOf_91 : decode cX8_daysOf 91 = .ok (.iconst 0, 1) := by decide +kernel
theorem dX8_daysOf_92 : decode cX8_daysOf 92 = .ok (.istore 7, 2) := by decide +kernel
theorem dX8_daysOf_94 : decode cX8_daysOf 94 = .ok (.iload 7, 2) := by decide +kernel
theorem dX8_daysOf_96 : decode cX8_daysOf 96 = .ok (.iload 4, 2) := by decide +kernel
theorem dX8_daysOf_98 : decode cX8_daysOf 98 = .ok (.if_icmp .ge 69, 3) := by decide +kernel
theorem dX8_daysOf_101 : decode cX8_daysOf 101 = .ok (.iconst 1, 1) := by decide +kernel
theorem dX8_daysOf_102 : decode cX8_daysOf 102 = .ok (.istore 8, 2) := by decide +kernel
theorem dX8_daysOf_104 : decode cX8_daysOf 104 = .ok (.iload 8, 2) := by decide +kernel
theorem dX8_daysOf_106 : decode cX8_daysOf 106 = .ok (.iload 4, 2) := by decide +kernel
theorem dX8_daysOf_108 : decode cX8_daysOf 108 = .ok (.if_icmp .ge 53, 3) := by decide +kernel
theorem dX8_daysOf_111 : decode cX8_daysOf 111 = .ok (.aload_n 0, 1) := by decide +kernel
theorem dX8_daysOf_112 : decode cX8_daysOf 112 = .ok (.getfield 87, 3) := by decide +kernel
theorem dX8_daysOf_115 : decode cX8_daysOf 115 = .ok (.iload 7, 2) := by decide +kernel
theorem dX8_daysOf_117 : decode cX8_daysOf 117 = .ok (.iaload, 1) := by decide +kernel
theorem dX8_daysOf_118 : decode cX8_daysOf 118 = .ok (.iconst 1, 1) := by decide +kernel
theorem dX8_daysOf_119 : decode cX8_daysOf 119 = .ok (.if_icmp .ne 42, 3) := by decide +kernel
theorem dX8_daysOf_122 : decode cX8_daysOf 122 = .ok (.aload_n 0, 1) := by decide +kernel
theorem dX8_daysOf_123 : decode cX8_daysOf 123 = .ok (.getfield 103, 3) := by decide +kernel
theorem dX8_daysOf_126 : decode cX8_daysOf 126 = .ok (.bipush 64, 2) := by decide +kernel
theorem dX8_daysOf_128 : decode cX8_daysOf 128 = .ok (.iload 7, 2) := by decide +kernel
theorem dX8_daysOf_130 : decode cX8_daysOf 130 = .ok (.imul, 1) := by decide +kernel
theorem dX8_daysOf_131 : decode cX8_daysOf 131 = .ok (.iload 8, 2) := by decide +kernel
theorem dX8_daysOf_133 : decode cX8_daysOf 133 = .ok (.iadd, 1) := by decide +kernel
theorem dX8_daysOf_134 : decode cX8_daysOf 134 = .ok (.iaload, 1) := by decide +kernel
theorem dX8_daysOf_135 : decode cX8_daysOf 135 = .ok (.ldc_w 301, 3) := by decide +kernel
theorem dX8_daysOf_138 : decode cX8_daysOf 138 = .ok (.if_icmp .ne 6, 3) := by decide +kernel
theorem dX8_daysOf_141 : decode cX8_daysOf 141 = .ok (.goto 14, 3) := by decide +kernel
theorem dX8_daysOf_144 : decode cX8_daysOf 144 = .ok (.aload_n 0, 1) := by decide +kernel
theorem dX8_daysOf_145 : decode cX8_daysOf 145 = .ok (.getfield 90, 3) := by decide +kernel
theorem dX8_daysOf_148 : decode cX8_daysOf 148 = .ok (.iload 8, 2) := by decide +kernel
theorem dX8_daysOf_150 : decode cX8_daysOf 150 = .ok (.iconst 1, 1) := by decide +kernel
theorem dX8_daysOf_151 : decode cX8_daysOf 151 = .ok (.iastore, 1) := by decide +kernel
theorem dX8_daysOf_152 : decode cX8_daysOf 152 = .ok (.iconst 1, 1) := by decide +kernel
theorem dX8_daysOf_153 : decode cX8_daysOf 153 = .ok (.istore 6, 2) := by decide +kernel
theorem dX8_daysOf_155 : decode cX8_daysOf 155 = .ok (.iinc 8 1, 3) := by decide +kernel
theorem dX8_daysOf_158 : decode cX8_daysOf 158 = .ok (.goto (-54), 3) := by decide +kernel
theorem dX8_daysOf_161 : decode cX8_daysOf 161 = .ok (.iinc 7 1, 3) := by decide +kernel
theorem dX8_daysOf_164 : decode cX8_daysOf 164 = .ok (.goto (-70), 3) := by decide +kernel
theorem dX8_daysOf_167 : decode cX8_daysOf 167 = .ok (.iload 6, 2) := by decide +kernel
theorem dX8_daysOf_169 : decode cX8_daysOf 169 = .ok (.ifCond .ne 6, 3) := by decide +kernel
theorem dX8_daysOf_172 : decode cX8_daysOf 172 = .ok (.iload 5, 2) := by decide +kernel
theorem dX8_daysOf_174 : decode cX8_daysOf 174 = .ok (.ireturn, 1) := by decide +kernel
theorem dX8_daysOf_175 : decode cX8_daysOf 175 = .ok (.iconst 0, 1) := by decide +kernel
theorem dX8_daysOf_176 : decode cX8_daysOf 176 = .ok (.istore 7, 2) := by decide +kernel
theorem dX8_daysOf_178 : decode cX8_daysOf 178 = .ok (.iload 7, 2) := by decide +kernel
theorem dX8_daysOf_180 : decode cX8_daysOf 180 = .ok (.iload 4, 2) := by decide +kernel
theorem dX8_daysOf_182 : decode cX8_daysOf 182 = .ok (.if_icmp .ge 23, 3) := by decide +kernel
theorem dX8_daysOf_185 : decode cX8_daysOf 185 = .ok (.aload_n 0, 1) := by decide +kernel
theorem dX8_daysOf_186 : decode cX8_daysOf 186 = .ok (.getfield 87, 3) := by decide +kernel
theorem dX8_daysOf_189 : decode cX8_daysOf 189 = .ok (.iload 7, 2) := by decide +kernel
theorem dX8_daysOf_191 : decode cX8_daysOf 191 = .ok (.aload_n 0, 1) := by decide +kernel
theorem dX8_daysOf_192 : decode cX8_daysOf 192 = .ok (.getfield 90, 3) := by decide +kernel
theorem dX8_daysOf_195 : decode cX8_daysOf 195 = .ok (.iload 7, 2) := by decide +kernel
theorem dX8_daysOf_197 : decode cX8_daysOf 197 = .ok (.iaload, 1) := by decide +kernel
theorem dX8_daysOf_198 : decode cX8_daysOf 198 = .ok (.iastore, 1) := by decide +kernel
theorem dX8_daysOf_199 : decode cX8_daysOf 199 = .ok (.iinc 7 1, 3) := by decide +kernel
theorem dX8_daysOf_202 : decode cX8_daysOf 202 = .ok (.goto (-24), 3) := by decide +kernel
theorem dX8_daysOf_205 : decode cX8_daysOf 205 = .ok (.iinc 5 1, 3) := by decide +kernel
theorem dX8_daysOf_208 : decode cX8_daysOf 208 = .ok (.goto (-150), 3) := by decide +kernel
theorem dX8_daysOf_211 : decode cX8_daysOf 211 = .ok (.iload_n 3, 1) := by decide +kernel
theorem dX8_daysOf_212 : decode cX8_daysOf 212 = .ok (.ireturn, 1) := by decide +kernel
theorem dX8_bitsOf_0 : decode cX8_bitsOf 0 = .ok (.iconst 0, 1) := by decide +kernel
theorem dX8_bitsOf_1 : decode cX8_bitsOf 1 = .ok (.istore_n 1, 1) := by decide +kernel
theorem dX8_bitsOf_2 : decode cX8_bitsOf 2 = .ok (.iload_n 0, 1) := by decide +kernel
theorem dX8_bitsOf_3 : decode cX8_bitsOf 3 = .ok (.istore_n 2, 1) := by decide +kernel
theorem dX8_bitsOf_4 : decode cX8_bitsOf 4 = .ok (.iload_n 2, 1) := by decide +kernel
theorem dX8_bitsOf_5 : decode cX8_bitsOf 5 = .ok (.ifCond .eq 15, 3) := by decide +kernel
theorem dX8_bitsOf_8 : decode cX8_bitsOf 8 = .ok (.iinc 1 1, 3) := by decide +kernel
theorem dX8_bitsOf_11 : decode cX8_bitsOf 11 = .ok (.iload_n 2, 1) := by decide +kernel
theorem dX8_bitsOf_12 : decode cX8_bitsOf 12 = .ok (.iload_n 2, 1) := by decide +kernel
theorem dX8_bitsOf_13 : decode cX8_bitsOf 13 = .ok (.iconst 1, 1) := by decide +kernel
theorem dX8_bitsOf_14 : decode cX8_bitsOf 14 = .ok (.isub, 1) := by decide +kernel
theorem dX8_bitsOf_15 : decode cX8_bitsOf 15 = .ok (.iand, 1) := by decide +kernel
theorem dX8_bitsOf_16 : decode cX8_bitsOf 16 = .ok (.istore_n 2, 1) := by decide +kernel
theorem dX8_bitsOf_17 : decode cX8_bitsOf 17 = .ok (.goto (-13), 3) := by decide +kernel
theorem dX8_bitsOf_20 : decode cX8_bitsOf 20 = .ok (.iload_n 1, 1) := by decide +kernel
theorem dX8_bitsOf_21 : decode cX8_bitsOf 21 = .ok (.ireturn, 1) := by decide +kernel
theorem dX8_isAsked_0 : decode cX8_isAsked 0 = .ok (.aload_n 0, 1) := by decide +kernel
theorem dX8_isAsked_1 : decode cX8_isAsked 1 = .ok (.iload_n 1, 1) := by decide +kernel
theorem dX8_isAsked_2 : decode cX8_isAsked 2 = .ok (.invokevirtual 258, 3) := by decide +kernel
theorem dX8_isAsked_5 : decode cX8_isAsked 5 = .ok (.ifCond .eq 17, 3) := by decide +kernel
theorem dX8_isAsked_8 : decode cX8_isAsked 8 = .ok (.aload_n 0, 1) := by decide +kernel
theorem dX8_isAsked_9 : decode cX8_isAsked 9 = .ok (.getfield 68, 3) := by decide +kernel
theorem dX8_isAsked_12 : decode cX8_isAsked 12 = .ok (.iload_n 1, 1) := by decide +kernel
theorem dX8_isAsked_13 : decode cX8_isAsked 13 = .ok (.iaload, 1) := by decide +kernel
theorem dX8_isAsked_14 : decode cX8_isAsked 14 = .ok (.iconst 1, 1) := by decide +kernel
theorem dX8_isAsked_15 : decode cX8_isAsked 15 = .ok (.if_icmp .ne 7, 3) := by decide +kernel
theorem dX8_isAsked_18 : decode cX8_isAsked 18 = .ok (.iconst 1, 1) := by decide +kernel
theorem dX8_isAsked_19 : decode cX8_isAsked 19 = .ok (.goto 4, 3) := by decide +kernel
theorem dX8_isAsked_22 : decode cX8_isAsked 22 = .ok (.iconst 0, 1) := by decide +kernel
theorem dX8_isAsked_23 : decode cX8_isAsked 23 = .ok (.ireturn, 1) := by decide +kernel
theorem dX8_silence_0 : decode cX8_silence 0 = .ok (.aload_n 0, 1) := by decide +kernel
theorem dX8_silence_1 : decode cX8_silence 1 = .ok (.iconst 0, 1) := by decide +kernel
theorem dX8_silence_2 : decode cX8_silence 2 = .ok (.putfield 128, 3) := by decide +kernel
theorem dX8_silence_5 : decode cX8_silence 5 = .ok (.aload_n 0, 1) := by decide +kernel
theorem dX8_silence_6 : decode cX8_silence 6 = .ok (.iload_n 1, 1) := by decide +kernel
theorem dX8_silence_7 : decode cX8_silence 7 = .ok (.invokevirtual 350, 3) := by decide +kernel
theorem dX8_silence_10 : decode cX8_silence 10 = .ok (.ifCond .ne 9, 3) := by decide +kernel
theorem dX8_silence_13 : decode cX8_silence 13 = .ok (.aload_n 0, 1) := by decide +kernel
theorem dX8_silence_14 : decode cX8_silence 14 = .ok (.iconst 1, 1) := by decide +kernel
theorem dX8_silence_15 : decode cX8_silence 15 = .ok (.invokevirtual 232, 3) := by decide +kernel
theorem dX8_silence_18 : decode cX8_silence 18 = .ok (.ireturn, 1) := by decide +kernel
theorem dX8_silence_19 : decode cX8_silence 19 = .ok (.iload_n 2, 1) := by decide +kernel
theorem dX8_silence_20 : decode cX8_silence 20 = .ok (.iconst 1, 1) := by decide +kernel
theorem dX8_silence_21 : decode cX8_silence 21 = .ok (.bipush 60, 2) := by decide +kernel
theorem dX8_silence_23 : decode cX8_silence 23 = .ok (.invokestatic 131, 3) := by decide +kernel
theorem dX8_silence_26 : decode cX8_silence 26 = .ok (.ifCond .ne 9, 3) := by decide +kernel
theorem dX8_silence_29 : decode cX8_silence 29 = .ok (.aload_n 0, 1) := by decide +kernel
theorem dX8_silence_30 : decode cX8_silence 30 = .ok (.iconst 2, 1) := by decide +kernel
theorem dX8_silence_31 : decode cX8_silence 31 = .ok (.invokevirtual 232, 3) := by decide +kernel
theorem dX8_silence_34 : decode cX8_silence 34 = .ok (.ireturn, 1) := by decide +kernel
theorem dX8_silence_35 : decode cX8_silence 35 = .ok (.iconst 0, 1) := by decide +kernel
theorem dX8_silence_36 : decode cX8_silence 36 = .ok (.istore_n 3, 1) := by decide +kernel
theorem dX8_silence_37 : decode cX8_silence 37 = .ok (.iload_n 3, 1) := by decide +kernel
theorem dX8_silence_38 : decode cX8_silence 38 = .ok (.aload_n 0, 1) := by decide +kernel
theorem dX8_silence_39 : decode cX8_silence 39 = .ok (.getfield 7, 3) := by decide +kernel
theorem dX8_silence_42 : decode cX8_silence 42 = .ok (.iconst 0, 1) := by decide +kernel
theorem dX8_silence_43 : decode cX8_silence 43 = .ok (.iaload, 1) := by decide +kernel
theorem dX8_silence_44 : decode cX8_silence 44 = .ok (.if_icmp .gt 60, 3) := by decide +kernel
theorem dX8_silence_47 : decode cX8_silence 47 = .ok (.iconst 0, 1) := by decide +kernel
theorem dX8_silence_48 : decode cX8_silence 48 = .ok (.istore 4, 2) := by decide +kernel
theorem dX8_silence_50 : decode cX8_silence 50 = .ok (.iload 4, 2) := by decide +kernel
theorem dX8_silence_52 : decode cX8_silence 52 = .ok (.iconst 1, 1) := by decide +kernel
theorem dX8_silence_53 : decode cX8_silence 53 = .ok (.aload_n 0, 1) := by decide +kernel
theorem dX8_silence_54 : decode cX8_silence 54 = .ok (.getfield 7, 3) := by decide +kernel
theorem dX8_silence_57 : decode cX8_silence 57 = .ok (.iconst 0, 1) := by decide +kernel
theorem dX8_silence_58 : decode cX8_silence 58 = .ok (.iaload, 1) := by decide +kernel
theorem dX8_silence_59 : decode cX8_silence 59 = .ok (.ishl, 1) := by decide +kernel
theorem dX8_silence_60 : decode cX8_silence 60 = .ok (.if_icmp .ge 38, 3) := by decide +kernel
theorem dX8_silence_63 : decode cX8_silence 63 = .ok (.iload 4, 2) := by decide +kernel
theorem dX8_silence_65 : decode cX8_silence 65 = .ok (.invokestatic 353, 3) := by decide +kernel
theorem dX8_silence_68 : decode cX8_silence 68 = .ok (.iload_n 3, 1) := by decide +kernel
theorem dX8_silence_69 : decode cX8_silence 69 = .ok (.if_icmp .ne 23, 3) := by decide +kernel
theorem dX8_silence_72 : decode cX8_silence 72 = .ok (.aload_n 0, 1) := by decide +kernel
theorem dX8_silence_73 : decode cX8_silence 73 = .ok (.aload_n 0, 1) := by decide +kernel
theorem dX8_silence_74 : decode cX8_silence 74 = .ok (.getfield 74, 3) := by decide +kernel
theorem dX8_silence_77 : decode cX8_silence 77 = .ok (.iload_n 1, 1) := by decide +kernel
theorem dX8_silence_78 : decode cX8_silence 78 = .ok (.iaload, 1) := by decide +kernel
theorem dX8_silence_79 : decode cX8_silence 79 = .ok (.iload 4, 2) := by decide +kernel
theorem dX8_silence_81 : decode cX8_silence 81 = .ok (.iload_n 2, 1) := by decide +kernel
theorem dX8_silence_82 : decode cX8_silence 82 = .ok (.invokevirtual 356, 3) := by decide +kernel
theorem dX8_silence_85 : decode cX8_silence 85 = .ok (.iload_n 2, 1) := by decide +kernel
theorem dX8_silence_86 : decode cX8_silence 86 = .ok (.if_icmp .ge 6, 3) := by decide +kernel
theorem dX8_silence_89 : decode cX8_silence 89 = .ok (.iload 4, 2) := by decide +kernel
theorem dX8_silence_91 : decode cX8_silence 91 = .ok (.ireturn, 1) := by decide +kernel
theorem dX8_silence_92 : decode cX8_silence 92 = .ok (.iinc 4 1, 3) := by decide +kernel
theorem dX8_silence_95 : decode cX8_silence 95 = .ok (.goto (-45), 3) := by decide +kernel
theorem dX8_silence_98 : decode cX8_silence 98 = .ok (.iinc 3 1, 3) := by decide +kernel
theorem dX8_silence_101 : decode cX8_silence 101 = .ok (.goto (-64), 3) := by decide +kernel
theorem dX8_silence_104 : decode cX8_silence 104 = .ok (.iconst (-1), 1) := by decide +kernel
theorem dX8_silence_105 : decode cX8_silence 105 = .ok (.ireturn, 1) := by decide +kernel
theorem dX8_stands_0 : decode cX8_stands 0 = .ok (.aload_n 0, 1) := by decide +kernel
theorem dX8_stands_1 : decode cX8_stands 1 = .ok (.iconst 0, 1) := by decide +kernel
theorem dX8_stands_2 : decode cX8_stands 2 = .ok (.putfield 128, 3) := by decide +kernel
theorem dX8_stands_5 : decode cX8_stands 5 = .ok (.aload_n 0, 1) := by decide +kernel
theorem dX8_stands_6 : decode cX8_stands 6 = .ok (.iload_n 1, 1) := by decide +kernel
theorem dX8_stands_7 : decode cX8_stands 7 = .ok (.invokevirtual 350, 3) := by decide +kernel
theorem dX8_stands_10 : decode cX8_stands 10 = .ok (.ifCond .ne 9, 3) := by decide +kernel
theorem dX8_stands_13 : decode cX8_stands 13 = .ok (.aload_n 0, 1) := by decide +kernel
theorem dX8_stands_14 : decode cX8_stands 14 = .ok (.iconst 1, 1) := by decide +kernel
theorem dX8_stands_15 : decode cX8_stands 15 = .ok (.invokevirtual 232, 3) := by decide +kernel
theorem dX8_stands_18 : decode cX8_stands 18 = .ok (.ireturn, 1) := by decide +kernel
theorem dX8_stands_19 : decode cX8_stands 19 = .ok (.aload_n 0, 1) := by decide +kernel
theorem dX8_stands_20 : decode cX8_stands 20 = .ok (.iload_n 2, 1) := by decide +kernel
theorem dX8_stands_21 : decode cX8_stands 21 = .ok (.invokevirtual 334, 3) := by decide +kernel
theorem dX8_stands_24 : decode cX8_stands 24 = .ok (.ifCond .eq 19, 3) := by decide +kernel
theorem dX8_stands_27 : decode cX8_stands 27 = .ok (.aload_n 0, 1) := by decide +kernel
theorem dX8_stands_28 : decode cX8_stands 28 = .ok (.aload_n 0, 1) := by decide +kernel
theorem dX8_stands_29 : decode cX8_stands 29 = .ok (.getfield 74, 3) := by decide +kernel
theorem dX8_stands_32 : decode cX8_stands 32 = .ok (.iload_n 1, 1) := by decide +kernel
theorem dX8_stands_33 : decode cX8_stands 33 = .ok (.iaload, 1) := by decide +kernel
theorem dX8_stands_34 : decode cX8_stands 34 = .ok (.iload_n 2, 1) := by decide +kernel
theorem dX8_stands_35 : decode cX8_stands 35 = .ok (.bipush 60, 2) := by decide +kernel
theorem dX8_stands_37 : decode cX8_stands 37 = .ok (.invokevirtual 356, 3) := by decide +kernel
theorem dX8_stands_40 : decode cX8_stands 40 = .ok (.goto 8, 3) := by decide +kernel
theorem dX8_stands_43 : decode cX8_stands 43 = .ok (.aload_n 0, 1) := by decide +kernel
theorem dX8_stands_44 : decode cX8_stands 44 = .ok (.iconst 2, 1) := by decide +kernel
theorem dX8_stands_45 : decode cX8_stands 45 = .ok (.invokevirtual 232, 3) := by decide +kernel
theorem dX8_stands_48 : decode cX8_stands 48 = .ok (.ireturn, 1) := by decide +kernel
theorem dX8_pairs_0 : decode cX8_pairs 0 = .ok (.aload_n 0, 1) := by decide +kernel
theorem dX8_pairs_1 : decode cX8_pairs 1 = .ok (.iconst 0, 1) := by decide +kernel
theorem dX8_pairs_2 : decode cX8_pairs 2 = .ok (.putfield 128, 3) := by decide +kernel
theorem dX8_pairs_5 : decode cX8_pairs 5 = .ok (.aload_n 0, 1) := by decide +kernel
theorem dX8_pairs_6 : decode cX8_pairs 6 = .ok (.iload_n 1, 1) := by decide +kernel
theorem dX8_pairs_7 : decode cX8_pairs 7 = .ok (.invokevirtual 350, 3) := by decide +kernel
theorem dX8_pairs_10 : decode cX8_pairs 10 = .ok (.ifCond .ne 9, 3) := by decide +kernel
theorem dX8_pairs_13 : decode cX8_pairs 13 = .ok (.aload_n 0, 1) := by decide +kernel
theorem dX8_pairs_14 : decode cX8_pairs 14 = .ok (.iconst 1, 1) := by decide +kernel
theorem dX8_pairs_15 : decode cX8_pairs 15 = .ok (.invokevirtual 232, 3) := by decide +kernel
theorem dX8_pairs_18 : decode cX8_pairs 18 = .ok (.ireturn, 1) := by decide +kernel
theorem dX8_pairs_19 : decode cX8_pairs 19 = .ok (.iload_n 2, 1) := by decide +kernel
theorem dX8_pairs_20 : decode cX8_pairs 20 = .ok (.iconst 1, 1) := by decide +kernel
theorem dX8_pairs_21 : decode cX8_pairs 21 = .ok (.bipush 60, 2) := by decide +kernel
theorem dX8_pairs_23 : decode cX8_pairs 23 = .ok (.invokestatic 131, 3) := by decide +kernel
theorem dX8_pairs_26 : decode cX8_pairs 26 = .ok (.ifCond .ne 9, 3) := by decide +kernel
theorem dX8_pairs_29 : decode cX8_pairs 29 = .ok (.aload_n 0, 1) := by decide +kernel
theorem dX8_pairs_30 : decode cX8_pairs 30 = .ok (.iconst 2, 1) := by decide +kernel
theorem dX8_pairs_31 : decode cX8_pairs 31 = .ok (.invokevirtual 232, 3) := by decide +kernel
theorem dX8_pairs_34 : decode cX8_pairs 34 = .ok (.ireturn, 1) := by decide +kernel
theorem dX8_pairs_35 : decode cX8_pairs 35 = .ok (.iconst 0, 1) := by decide +kernel
theorem dX8_pairs_36 : decode cX8_pairs 36 = .ok (.istore_n 3, 1) := by decide +kernel
theorem dX8_pairs_37 : decode cX8_pairs 37 = .ok (.iconst 1, 1) := by decide +kernel
theorem dX8_pairs_38 : decode cX8_pairs 38 = .ok (.aload_n 0, 1) := by decide +kernel
theorem dX8_pairs_39 : decode cX8_pairs 39 = .ok (.getfield 7, 3) := by decide +kernel
theorem dX8_pairs_42 : decode cX8_pairs 42 = .ok (.iconst 0, 1) := by decide +kernel
theorem dX8_pairs_43 : decode cX8_pairs 43 = .ok (.iaload, 1) := by decide +kernel
theorem dX8_pairs_44 : decode cX8_pairs 44 = .ok (.ishl, 1) := by decide +kernel
theorem dX8_pairs_45 : decode cX8_pairs 45 = .ok (.iconst 1, 1) := by decide +kernel
theorem dX8_pairs_46 : decode cX8_pairs 46 = .ok (.isub, 1) := by decide +kernel
theorem dX8_pairs_47 : decode cX8_pairs 47 = .ok (.istore 4, 2) := by decide +kernel
theorem dX8_pairs_49 : decode cX8_pairs 49 = .ok (.iconst 0, 1) := by decide +kernel
theorem dX8_pairs_50 : decode cX8_pairs 50 = .ok (.istore 5, 2) := by decide +kernel
theorem dX8_pairs_52 : decode cX8_pairs 52 = .ok (.iload 5, 2) := by decide +kernel
theorem dX8_pairs_54 : decode cX8_pairs 54 = .ok (.aload_n 0, 1) := by decide +kernel
theorem dX8_pairs_55 : decode cX8_pairs 55 = .ok (.getfield 7, 3) := by decide +kernel
theorem dX8_pairs_58 : decode cX8_pairs 58 = .ok (.iconst 0, 1) := by decide +kernel
theorem dX8_pairs_59 : decode cX8_pairs 59 = .ok (.iaload, 1) := by decide +kernel
theorem dX8_pairs_60 : decode cX8_pairs 60 = .ok (.if_icmp .ge 69, 3) := by decide +kernel
theorem dX8_pairs_63 : decode cX8_pairs 63 = .ok (.iload 5, 2) := by decide +kernel
theorem dX8_pairs_65 : decode cX8_pairs 65 = .ok (.iconst 1, 1) := by decide +kernel
theorem dX8_pairs_66 : decode cX8_pairs 66 = .ok (.iadd, 1) := by decide +kernel
theorem dX8_pairs_67 : decode cX8_pairs 67 = .ok (.istore 6, 2) := by decide +kernel
theorem dX8_pairs_69 : decode cX8_pairs 69 = .ok (.iload 6, 2) := by decide +kernel
theorem dX8_pairs_71 : decode cX8_pairs 71 = .ok (.aload_n 0, 1) := by decide +kernel
theorem dX8_pairs_72 : decode cX8_pairs 72 = .ok (.getfield 7, 3) := by decide +kernel
theorem dX8_pairs_75 : decode cX8_pairs 75 = .ok (.iconst 0, 1) := by decide +kernel
theorem dX8_pairs_76 : decode cX8_pairs 76 = .ok (.iaload, 1) := by decide +kernel
theorem dX8_pairs_77 : decode cX8_pairs 77 = .ok (.if_icmp .ge 46, 3) := by decide +kernel
theorem dX8_pairs_80 : decode cX8_pairs 80 = .ok (.iload_n 3, 1) := by decide +kernel
theorem dX8_pairs_81 : decode cX8_pairs 81 = .ok (.aload_n 0, 1) := by decide +kernel
theorem dX8_pairs_82 : decode cX8_pairs 82 = .ok (.aload_n 0, 1) := by decide +kernel
theorem dX8_pairs_83 : decode cX8_pairs 83 = .ok (.getfield 74, 3) := by decide +kernel
theorem dX8_pairs_86 : decode cX8_pairs 86 = .ok (.iload_n 1, 1) := by decide +kernel
theorem dX8_pairs_87 : decode cX8_pairs 87 = .ok (.iaload, 1) := by decide +kernel
theorem dX8_pairs_88 : decode cX8_pairs 88 = .ok (.iload 4, 2) := by decide +kernel
theorem dX8_pairs_90 : decode cX8_pairs 90 = .ok (.iconst 1, 1) := by decide +kernel
theorem dX8_pairs_91 : decode cX8_pairs 91 = .ok (.iload 5, 2) := by decide +kernel
theorem dX8_pairs_93 : decode cX8_pairs 93 = .ok (.ishl, 1) := by decide +kernel
theorem dX8_pairs_94 : decode cX8_pairs 94 = .ok (.iconst 1, 1) := by decide +kernel
theorem dX8_pairs_95 : decode cX8_pairs 95 = .ok (.iload 6, 2) := by decide +kernel
theorem dX8_pairs_97 : decode cX8_pairs 97 = .ok (.ishl, 1) := by decide +kernel
theorem dX8_pairs_98 : decode cX8_pairs 98 = .ok (.ior, 1) := by decide +kernel
theorem dX8_pairs_99 : decode cX8_pairs 99 = .ok (.iconst (-1), 1) := by decide +kernel
theorem dX8_pairs_100 : decode cX8_pairs 100 = .ok (.ixor, 1) := by decide +kernel
theorem dX8_pairs_101 : decode cX8_pairs 101 = .ok (.iand, 1) := by decide +kernel
theorem dX8_pairs_102 : decode cX8_pairs 102 = .ok (.iload_n 2, 1) := by decide +kernel
theorem dX8_pairs_103 : decode cX8_pairs 103 = .ok (.invokevirtual 356, 3) := by decide +kernel
theorem dX8_pairs_106 : decode cX8_pairs 106 = .ok (.iload_n 2, 1) := by decide +kernel
theorem dX8_pairs_107 : decode cX8_pairs 107 = .ok (.if_icmp .ne 7, 3) := by decide +kernel
theorem dX8_pairs_110 : decode cX8_pairs 110 = .ok (.iconst 1, 1) := by decide +kernel
theorem dX8_pairs_111 : decode cX8_pairs 111 = .ok (.goto 4, 3) := by decide +kernel
theorem dX8_pairs_114 : decode cX8_pairs 114 = .ok (.iconst 0, 1) := by decide +kernel
theorem dX8_pairs_115 : decode cX8_pairs 115 = .ok (.iadd, 1) := by decide +kernel
theorem dX8_pairs_116 : decode cX8_pairs 116 = .ok (.istore_n 3, 1) := by decide +kernel
theorem dX8_pairs_117 : decode cX8_pairs 117 = .ok (.iinc 6 1, 3) := by decide +kernel
theorem dX8_pairs_120 : decode cX8_pairs 120 = .ok (.goto (-51), 3) := by decide +kernel
theorem dX8_pairs_123 : decode cX8_pairs 123 = .ok (.iinc 5 1, 3) := by decide +kernel
theorem dX8_pairs_126 : decode cX8_pairs 126 = .ok (.goto (-74), 3) := by decide +kernel
theorem dX8_pairs_129 : decode cX8_pairs 129 = .ok (.iload_n 3, 1) := by decide +kernel
theorem dX8_pairs_130 : decode cX8_pairs 130 = .ok (.ireturn, 1) := by decide +kernel
theorem dX8_mayOf_0 : decode cX8_mayOf 0 = .ok (.iconst 0, 1) := by decide +kernel
theorem dX8_mayOf_1 : decode cX8_mayOf 1 = .ok (.istore 4, 2) := by decide +kernel
theorem dX8_mayOf_3 : decode cX8_mayOf 3 = .ok (.aload_n 0, 1) := by decide +kernel
theorem dX8_mayOf_4 : decode cX8_mayOf 4 = .ok (.getfield 31, 3) := by decide +kernel
theorem dX8_mayOf_7 : decode cX8_mayOf 7 = .ok (.iload_n 1, 1) := by decide +kernel
theorem dX8_mayOf_8 : decode cX8_mayOf 8 = .ok (.iaload, 1) := by decide +kernel
theorem dX8_mayOf_9 : decode cX8_mayOf 9 = .ok (.istore 5, 2) := by decide +kernel
theorem dX8_mayOf_11 : decode cX8_mayOf 11 = .ok (.iload 5, 2) := by decide +kernel
theorem dX8_mayOf_13 : decode cX8_mayOf 13 = .ok (.iload_n 2, 1) := by decide +kernel
theorem dX8_mayOf_14 : decode cX8_mayOf 14 = .ok (.if_icmp .gt 166, 3) := by decide +kernel
theorem dX8_mayOf_17 : decode cX8_mayOf 17 = .ok (.iconst 0, 1) := by decide +kernel
theorem dX8_mayOf_18 : decode cX8_mayOf 18 = .ok (.istore 6, 2) := by decide +kernel
theorem dX8_mayOf_20 : decode cX8_mayOf 20 = .ok (.iload 6, 2) := by decide +kernel
theorem dX8_mayOf_22 : decode cX8_mayOf 22 = .ok (.bipush 12, 2) := by decide +kernel
theorem dX8_mayOf_24 : decode cX8_mayOf 24 = .ok (.if_icmp .ge 150, 3) := by decide +kernel
theorem dX8_mayOf_27 : decode cX8_mayOf 27 = .ok (.iload 5, 2) := by decide +kernel
theorem dX8_mayOf_29 : decode cX8_mayOf 29 = .ok (.iload_n 2, 1) := by decide +kernel
theorem dX8_mayOf_30 : decode cX8_mayOf 30 = .ok (.if_icmp .ne 12, 3) := by decide +kernel
theorem dX8_mayOf_33 : decode cX8_mayOf 33 = .ok (.iload 6, 2) := by decide +kernel
theorem dX8_mayOf_35 : decode cX8_mayOf 35 = .ok (.iload_n 3, 1) := by decide +kernel
theorem dX8_mayOf_36 : decode cX8_mayOf 36 = .ok (.if_icmp .le 6, 3) := by decide +kernel
theorem dX8_mayOf_39 : decode cX8_mayOf 39 = .ok (.iload 4, 2) := by decide +kernel
theorem dX8_mayOf_41 : decode cX8_mayOf 41 = .ok (.ireturn, 1) := by decide +kernel
theorem dX8_mayOf_42 : decode cX8_mayOf 42 = .ok (.iload 5, 2) := by decide +kernel
theorem dX8_mayOf_44 : decode cX8_mayOf 44 = .ok (.aload_n 0, 1) := by decide +kernel
theorem dX8_mayOf_45 : decode cX8_mayOf 45 = .ok (.getfield 31, 3) := by decide +kernel
theorem dX8_mayOf_48 : decode cX8_mayOf 48 = .ok (.iload_n 1, 1) := by decide +kernel
theorem dX8_mayOf_49 : decode cX8_mayOf 49 = .ok (.iaload, 1) := by decide +kernel
theorem dX8_mayOf_50 : decode cX8_mayOf 50 = .ok (.if_icmp .ne 33, 3) := by decide +kernel
theorem dX8_mayOf_53 : decode cX8_mayOf 53 = .ok (.iload 6, 2) := by decide +kernel
theorem dX8_mayOf_55 : decode cX8_mayOf 55 = .ok (.aload_n 0, 1) := by decide +kernel
theorem dX8_mayOf_56 : decode cX8_mayOf 56 = .ok (.getfield 34, 3) := by decide +kernel
theorem dX8_mayOf_59 : decode cX8_mayOf 59 = .ok (.iload_n 1, 1) := by decide +kernel
theorem dX8_mayOf_60 : decode cX8_mayOf 60 = .ok (.iaload, 1) := by decide +kernel
theorem dX8_mayOf_61 : decode cX8_mayOf 61 = .ok (.if_icmp .ne 22, 3) := by decide +kernel
theorem dX8_mayOf_64 : decode cX8_mayOf 64 = .ok (.iconst 1, 1) := by decide +kernel
theorem dX8_mayOf_65 : decode cX8_mayOf 65 = .ok (.aload_n 0, 1) := by decide +kernel
theorem dX8_mayOf_66 : decode cX8_mayOf 66 = .ok (.getfield 25, 3) := by decide +kernel
theorem dX8_mayOf_69 : decode cX8_mayOf 69 = .ok (.iload_n 1, 1) := by decide +kernel
theorem dX8_mayOf_70 : decode cX8_mayOf 70 = .ok (.iaload, 1) := by decide +kernel
theorem dX8_mayOf_71 : decode cX8_mayOf 71 = .ok (.ishl, 1) := by decide +kernel
theorem dX8_mayOf_72 : decode cX8_mayOf 72 = .ok (.iconst 1, 1) := by decide +kernel
theorem dX8_mayOf_73 : decode cX8_mayOf 73 = .ok (.aload_n 0, 1) := by decide +kernel
theorem dX8_mayOf_74 : decode cX8_mayOf 74 = .ok (.getfield 28, 3) := by decide +kernel
theorem dX8_mayOf_77 : decode cX8_mayOf 77 = .ok (.iload_n 1, 1) := by decide +kernel
theorem dX8_mayOf_78 : decode cX8_mayOf 78 = .ok (.iaload, 1) := by decide +kernel
theorem dX8_mayOf_79 : decode cX8_mayOf 79 = .ok (.ishl, 1) := by decide +kernel
theorem dX8_mayOf_80 : decode cX8_mayOf 80 = .ok (.ior, 1) := by decide +kernel
theorem dX8_mayOf_81 : decode cX8_mayOf 81 = .ok (.istore 4, 2) := by decide +kernel
theorem dX8_mayOf_83 : decode cX8_mayOf 83 = .ok (.iconst 0, 1) := by decide +kernel
theorem dX8_mayOf_84 : decode cX8_mayOf 84 = .ok (.istore 7, 2) := by decide +kernel
theorem dX8_mayOf_86 : decode cX8_mayOf 86 = .ok (.iload 7, 2) := by decide +kernel
theorem dX8_mayOf_88 : decode cX8_mayOf 88 = .ok (.aload_n 0, 1) := by decide +kernel
theorem dX8_mayOf_89 : decode cX8_mayOf 89 = .ok (.getfield 7, 3) := by decide +kernel
theorem dX8_mayOf_92 : decode cX8_mayOf 92 = .ok (.iconst 1, 1) := by decide +kernel
theorem dX8_mayOf_93 : decode cX8_mayOf 93 = .ok (.iaload, 1) := by decide +kernel
theorem dX8_mayOf_94 : decode cX8_mayOf 94 = .ok (.if_icmp .ge 74, 3) := by decide +kernel
theorem dX8_mayOf_97 : decode cX8_mayOf 97 = .ok (.aload_n 0, 1) := by decide +kernel
theorem dX8_mayOf_98 : decode cX8_mayOf 98 = .ok (.getfield 22, 3) := by decide +kernel
theorem dX8_mayOf_101 : decode cX8_mayOf 101 = .ok (.iload 7, 2) := by decide +kernel
theorem dX8_mayOf_103 : decode cX8_mayOf 103 = .ok (.iaload, 1) := by decide +kernel
theorem dX8_mayOf_104 : decode cX8_mayOf 104 = .ok (.iload 6, 2) := by decide +kernel
theorem dX8_mayOf_106 : decode cX8_mayOf 106 = .ok (.if_icmp .ne 56, 3) := by decide +kernel
theorem dX8_mayOf_109 : decode cX8_mayOf 109 = .ok (.iload 4, 2) := by decide +kernel
theorem dX8_mayOf_111 : decode cX8_mayOf 111 = .ok (.aload_n 0, 1) := by decide +kernel
theorem dX8_mayOf_112 : decode cX8_mayOf 112 = .ok (.getfield 16, 3) := by decide +kernel
theorem dX8_mayOf_115 : decode cX8_mayOf 115 = .ok (.iload 7, 2) := by decide +kernel
theorem dX8_mayOf_117 : decode cX8_mayOf 117 = .ok (.iaload, 1) := by decide +kernel
theorem dX8_mayOf_118 : decode cX8_mayOf 118 = .ok (.ishr, 1) := by decide +kernel
theorem dX8_mayOf_119 : decode cX8_mayOf 119 = .ok (.iconst 1, 1) := by decide +kernel
theorem dX8_mayOf_120 : decode cX8_mayOf 120 = .ok (.iand, 1) := by decide +kernel
theorem dX8_mayOf_121 : decode cX8_mayOf 121 = .ok (.iload 4, 2) := by decide +kernel
theorem dX8_mayOf_123 : decode cX8_mayOf 123 = .ok (.aload_n 0, 1) := by decide +kernel
theorem dX8_mayOf_124 : decode cX8_mayOf 124 = .ok (.getfield 19, 3) := by decide +kernel
theorem dX8_mayOf_127 : decode cX8_mayOf 127 = .ok (.iload 7, 2) := by decide +kernel
theorem dX8_mayOf_129 : decode cX8_mayOf 129 = .ok (.iaload, 1) := by decide +kernel
theorem dX8_mayOf_130 : decode cX8_mayOf 130 = .ok (.ishr, 1) := by decide +kernel
theorem dX8_mayOf_131 : decode cX8_mayOf 131 = .ok (.iconst 1, 1) := by decide +kernel
theorem dX8_mayOf_132 : decode cX8_mayOf 132 = .ok (.iand, 1) := by decide +kernel
theorem dX8_mayOf_133 : decode cX8_mayOf 133 = .ok (.iadd, 1) := by decide +kernel
theorem dX8_mayOf_134 : decode cX8_mayOf 134 = .ok (.iconst 1, 1) := by decide +kernel
theorem dX8_mayOf_135 : decode cX8_mayOf 135 = .ok (.if_icmp .ne 27, 3) := by decide +kernel
theorem dX8_mayOf_138 : decode cX8_mayOf 138 = .ok (.iload 4, 2) := by decide +kernel
theorem dX8_mayOf_140 : decode cX8_mayOf 140 = .ok (.iconst 1, 1) := by decide +kernel
theorem dX8_mayOf_141 : decode cX8_mayOf 141 = .ok (.aload_n 0, 1) := by decide +kernel
theorem dX8_mayOf_142 : decode cX8_mayOf 142 = .ok (.getfield 16, 3) := by decide +kernel
theorem dX8_mayOf_145 : decode cX8_mayOf 145 = .ok (.iload 7, 2) := by decide +kernel
theorem dX8_mayOf_147 : decode cX8_mayOf 147 = .ok (.iaload, 1) := by decide +kernel
theorem dX8_mayOf_148 : decode cX8_mayOf 148 = .ok (.ishl, 1) := by decide +kernel
theorem dX8_mayOf_149 : decode cX8_mayOf 149 = .ok (.iconst 1, 1) := by decide +kernel
theorem dX8_mayOf_150 : decode cX8_mayOf 150 = .ok (.aload_n 0, 1) := by decide +kernel
theorem dX8_mayOf_151 : decode cX8_mayOf 151 = .ok (.getfield 19, 3) := by decide +kernel
theorem dX8_mayOf_154 : decode cX8_mayOf 154 = .ok (.iload 7, 2) := by decide +kernel
theorem dX8_mayOf_156 : decode cX8_mayOf 156 = .ok (.iaload, 1) := by decide +kernel
theorem dX8_mayOf_157 : decode cX8_mayOf 157 = .ok (.ishl, 1) := by decide +kernel
theorem dX8_mayOf_158 : decode cX8_mayOf 158 = .ok (.ior, 1) := by decide +kernel
theorem dX8_mayOf_159 : decode cX8_mayOf 159 = .ok (.ior, 1) := by decide +kernel
theorem dX8_mayOf_160 : decode cX8_mayOf 160 = .ok (.istore 4, 2) := by decide +kernel
theorem dX8_mayOf_162 : decode cX8_mayOf 162 = .ok (.iinc 7 1, 3) := by decide +kernel
theorem dX8_mayOf_165 : decode cX8_mayOf 165 = .ok (.goto (-79), 3) := by decide +kernel
theorem dX8_mayOf_168 : decode cX8_mayOf 168 = .ok (.iinc 6 1, 3) := by decide +kernel
theorem dX8_mayOf_171 : decode cX8_mayOf 171 = .ok (.goto (-151), 3) := by decide +kernel
theorem dX8_mayOf_174 : decode cX8_mayOf 174 = .ok (.iinc 5 1, 3) := by decide +kernel
theorem dX8_mayOf_177 : decode cX8_mayOf 177 = .ok (.goto (-166), 3) := by decide +kernel
theorem dX8_mayOf_180 : decode cX8_mayOf 180 = .ok (.iload 4, 2) := by decide +kernel
theorem dX8_mayOf_182 : decode cX8_mayOf 182 = .ok (.ireturn, 1) := by decide +kernel
theorem dX8_isTrue_0 : decode cX8_isTrue 0 = .ok (.aload_n 0, 1) := by decide +kernel
theorem dX8_isTrue_1 : decode cX8_isTrue 1 = .ok (.iconst 1, 1) := by decide +kernel
theorem dX8_isTrue_2 : decode cX8_isTrue 2 = .ok (.invokevirtual 124, 3) := by decide +kernel
theorem dX8_isTrue_5 : decode cX8_isTrue 5 = .ok (.iconst 0, 1) := by decide +kernel
theorem dX8_isTrue_6 : decode cX8_isTrue 6 = .ok (.istore 5, 2) := by decide +kernel
theorem dX8_isTrue_8 : decode cX8_isTrue 8 = .ok (.iload 5, 2) := by decide +kernel
theorem dX8_isTrue_10 : decode cX8_isTrue 10 = .ok (.iload_n 3, 1) := by decide +kernel
theorem dX8_isTrue_11 : decode cX8_isTrue 11 = .ok (.if_icmp .gt 76, 3) := by decide +kernel
theorem dX8_isTrue_14 : decode cX8_isTrue 14 = .ok (.aload_n 0, 1) := by decide +kernel
theorem dX8_isTrue_15 : decode cX8_isTrue 15 = .ok (.iconst 1, 1) := by decide +kernel
theorem dX8_isTrue_16 : decode cX8_isTrue 16 = .ok (.invokevirtual 276, 3) := by decide +kernel
theorem dX8_isTrue_19 : decode cX8_isTrue 19 = .ok (.iconst 0, 1) := by decide +kernel
theorem dX8_isTrue_20 : decode cX8_isTrue 20 = .ok (.istore 6, 2) := by decide +kernel
theorem dX8_isTrue_22 : decode cX8_isTrue 22 = .ok (.iload 6, 2) := by decide +kernel
theorem dX8_isTrue_24 : decode cX8_isTrue 24 = .ok (.bipush 12, 2) := by decide +kernel
theorem dX8_isTrue_26 : decode cX8_isTrue 26 = .ok (.if_icmp .ge 49, 3) := by decide +kernel
theorem dX8_isTrue_29 : decode cX8_isTrue 29 = .ok (.iload 5, 2) := by decide +kernel
theorem dX8_isTrue_31 : decode cX8_isTrue 31 = .ok (.iload_n 3, 1) := by decide +kernel
theorem dX8_isTrue_32 : decode cX8_isTrue 32 = .ok (.if_icmp .lt 10, 3) := by decide +kernel
theorem dX8_isTrue_35 : decode cX8_isTrue 35 = .ok (.iload 6, 2) := by decide +kernel
theorem dX8_isTrue_37 : decode cX8_isTrue 37 = .ok (.iload 4, 2) := by decide +kernel
theorem dX8_isTrue_39 : decode cX8_isTrue 39 = .ok (.if_icmp .gt 36, 3) := by decide +kernel
theorem dX8_isTrue_42 : decode cX8_isTrue 42 = .ok (.aload_n 0, 1) := by decide +kernel
theorem dX8_isTrue_43 : decode cX8_isTrue 43 = .ok (.iconst 1, 1) := by decide +kernel
theorem dX8_isTrue_44 : decode cX8_isTrue 44 = .ok (.iload 6, 2) := by decide +kernel
theorem dX8_isTrue_46 : decode cX8_isTrue 46 = .ok (.invokevirtual 279, 3) := by decide +kernel
theorem dX8_isTrue_49 : decode cX8_isTrue 49 = .ok (.pop, 1) := by decide +kernel
theorem dX8_isTrue_50 : decode cX8_isTrue 50 = .ok (.aload_n 0, 1) := by decide +kernel
theorem dX8_isTrue_51 : decode cX8_isTrue 51 = .ok (.getfield 77, 3) := by decide +kernel
theorem dX8_isTrue_54 : decode cX8_isTrue 54 = .ok (.bipush 12, 2) := by decide +kernel
theorem dX8_isTrue_56 : decode cX8_isTrue 56 = .ok (.iload_n 2, 1) := by decide +kernel
theorem dX8_isTrue_57 : decode cX8_isTrue 57 = .ok (.iadd, 1) := by decide +kernel
theorem dX8_isTrue_58 : decode cX8_isTrue 58 = .ok (.iaload, 1) := by decide +kernel
theorem dX8_isTrue_59 : decode cX8_isTrue 59 = .ok (.iload_n 1, 1) := by decide +kernel
theorem dX8_isTrue_60 : decode cX8_isTrue 60 = .ok (.ishr, 1) := by decide +kernel
theorem dX8_isTrue_61 : decode cX8_isTrue 61 = .ok (.iconst 1, 1) := by decide +kernel
theorem dX8_isTrue_62 : decode cX8_isTrue 62 = .ok (.iand, 1) := by decide +kernel
theorem dX8_isTrue_63 : decode cX8_isTrue 63 = .ok (.iconst 1, 1) := by decide +kernel
theorem dX8_isTrue_64 : decode cX8_isTrue 64 = .ok (.if_icmp .ne 5, 3) := by decide +kernel
theorem dX8_isTrue_67 : decode cX8_isTrue 67 = .ok (.iconst 1, 1) := by decide +kernel
theorem dX8_isTrue_68 : decode cX8_isTrue 68 = .ok (.ireturn, 1) := by decide +kernel
theorem dX8_isTrue_69 : decode cX8_isTrue 69 = .ok (.iinc 6 1, 3) := by decide +kernel
theorem dX8_isTrue_72 : decode cX8_isTrue 72 = .ok (.goto (-50), 3) := by decide +kernel
theorem dX8_isTrue_75 : decode cX8_isTrue 75 = .ok (.aload_n 0, 1) := by decide +kernel
theorem dX8_isTrue_76 : decode cX8_isTrue 76 = .ok (.iconst 1, 1) := by decide +kernel
theorem dX8_isTrue_77 : decode cX8_isTrue 77 = .ok (.invokevirtual 282, 3) := by decide +kernel
theorem dX8_isTrue_80 : decode cX8_isTrue 80 = .ok (.pop, 1) := by decide +kernel
theorem dX8_isTrue_81 : decode cX8_isTrue 81 = .ok (.iinc 5 1, 3) := by decide +kernel
theorem dX8_isTrue_84 : decode cX8_isTrue 84 = .ok (.goto (-76), 3) := by decide +kernel
theorem dX8_isTrue_87 : decode cX8_isTrue 87 = .ok (.iconst 0, 1) := by decide +kernel
theorem dX8_isTrue_88 : decode cX8_isTrue 88 = .ok (.ireturn, 1) := by decide +kernel
theorem dX8_isTale_0 : decode cX8_isTale 0 = .ok (.aload_n 0, 1) := by decide +kernel
theorem dX8_isTale_1 : decode cX8_isTale 1 = .ok (.iload_n 1, 1) := by decide +kernel
theorem dX8_isTale_2 : decode cX8_isTale 2 = .ok (.invokevirtual 252, 3) := by decide +kernel
theorem dX8_isTale_5 : decode cX8_isTale 5 = .ok (.ifCond .eq 36, 3) := by decide +kernel
theorem dX8_isTale_8 : decode cX8_isTale 8 = .ok (.aload_n 0, 1) := by decide +kernel
theorem dX8_isTale_9 : decode cX8_isTale 9 = .ok (.iload_n 2, 1) := by decide +kernel
theorem dX8_isTale_10 : decode cX8_isTale 10 = .ok (.invokevirtual 258, 3) := by decide +kernel
theorem dX8_isTale_13 : decode cX8_isTale 13 = .ok (.ifCond .eq 28, 3) := by decide +kernel
theorem dX8_isTale_16 : decode cX8_isTale 16 = .ok (.iload_n 3, 1) := by decide +kernel
theorem dX8_isTale_17 : decode cX8_isTale 17 = .ok (.iconst 0, 1) := by decide +kernel
theorem dX8_isTale_18 : decode cX8_isTale 18 = .ok (.bipush 99, 2) := by decide +kernel
theorem dX8_isTale_20 : decode cX8_isTale 20 = .ok (.invokestatic 131, 3) := by decide +kernel
theorem dX8_isTale_23 : decode cX8_isTale 23 = .ok (.ifCond .eq 18, 3) := by decide +kernel
theorem dX8_isTale_26 : decode cX8_isTale 26 = .ok (.iload 4, 2) := by decide +kernel
theorem dX8_isTale_28 : decode cX8_isTale 28 = .ok (.iconst 0, 1) := by decide +kernel
theorem dX8_isTale_29 : decode cX8_isTale 29 = .ok (.bipush 11, 2) := by decide +kernel
theorem dX8_isTale_31 : decode cX8_isTale 31 = .ok (.invokestatic 131, 3) := by decide +kernel
theorem dX8_isTale_34 : decode cX8_isTale 34 = .ok (.ifCond .eq 7, 3) := by decide +kernel
theorem dX8_isTale_37 : decode cX8_isTale 37 = .ok (.iconst 1, 1) := by decide +kernel
theorem dX8_isTale_38 : decode cX8_isTale 38 = .ok (.goto 4, 3) := by decide +kernel
theorem dX8_isTale_41 : decode cX8_isTale 41 = .ok (.iconst 0, 1) := by decide +kernel
theorem dX8_isTale_42 : decode cX8_isTale 42 = .ok (.ireturn, 1) := by decide +kernel
theorem dX8_tale_0 : decode cX8_tale 0 = .ok (.aload_n 0, 1) := by decide +kernel
theorem dX8_tale_1 : decode cX8_tale 1 = .ok (.iconst 0, 1) := by decide +kernel
theorem dX8_tale_2 : decode cX8_tale 2 = .ok (.putfield 128, 3) := by decide +kernel
theorem dX8_tale_5 : decode cX8_tale 5 = .ok (.aload_n 0, 1) := by decide +kernel
theorem dX8_tale_6 : decode cX8_tale 6 = .ok (.iload_n 1, 1) := by decide +kernel
theorem dX8_tale_7 : decode cX8_tale 7 = .ok (.iload_n 2, 1) := by decide +kernel
theorem dX8_tale_8 : decode cX8_tale 8 = .ok (.iload_n 3, 1) := by decide +kernel
theorem dX8_tale_9 : decode cX8_tale 9 = .ok (.iload 4, 2) := by decide +kernel
theorem dX8_tale_11 : decode cX8_tale 11 = .ok (.invokevirtual 359, 3) := by decide +kernel
theorem dX8_tale_14 : decode cX8_tale 14 = .ok (.ifCond .ne 9, 3) := by decide +kernel
theorem dX8_tale_17 : decode cX8_tale 17 = .ok (.aload_n 0, 1) := by decide +kernel
theorem dX8_tale_18 : decode cX8_tale 18 = .ok (.iconst 1, 1) := by decide +kernel
theorem dX8_tale_19 : decode cX8_tale 19 = .ok (.invokevirtual 232, 3) := by decide +kernel
theorem dX8_tale_22 : decode cX8_tale 22 = .ok (.ireturn, 1) := by decide +kernel
theorem dX8_tale_23 : decode cX8_tale 23 = .ok (.aload_n 0, 1) := by decide +kernel
theorem dX8_tale_24 : decode cX8_tale 24 = .ok (.iload_n 2, 1) := by decide +kernel
theorem dX8_tale_25 : decode cX8_tale 25 = .ok (.iload_n 3, 1) := by decide +kernel
theorem dX8_tale_26 : decode cX8_tale 26 = .ok (.iload 4, 2) := by decide +kernel
theorem dX8_tale_28 : decode cX8_tale 28 = .ok (.invokevirtual 363, 3) := by decide +kernel
theorem dX8_tale_31 : decode cX8_tale 31 = .ok (.iload_n 1, 1) := by decide +kernel
theorem dX8_tale_32 : decode cX8_tale 32 = .ok (.ishr, 1) := by decide +kernel
theorem dX8_tale_33 : decode cX8_tale 33 = .ok (.iconst 1, 1) := by decide +kernel
theorem dX8_tale_34 : decode cX8_tale 34 = .ok (.iand, 1) := by decide +kernel
theorem dX8_tale_35 : decode cX8_tale 35 = .ok (.ifCond .ne 5, 3) := by decide +kernel
theorem dX8_tale_38 : decode cX8_tale 38 = .ok (.iconst 0, 1) := by decide +kernel
theorem dX8_tale_39 : decode cX8_tale 39 = .ok (.ireturn, 1) := by decide +kernel
theorem dX8_tale_40 : decode cX8_tale 40 = .ok (.aload_n 0, 1) := by decide +kernel
theorem dX8_tale_41 : decode cX8_tale 41 = .ok (.iload_n 1, 1) := by decide +kernel
theorem dX8_tale_42 : decode cX8_tale 42 = .ok (.iload_n 2, 1) := by decide +kernel
theorem dX8_tale_43 : decode cX8_tale 43 = .ok (.iload_n 3, 1) := by decide +kernel
theorem dX8_tale_44 : decode cX8_tale 44 = .ok (.iload 4, 2) := by decide +kernel
theorem dX8_tale_46 : decode cX8_tale 46 = .ok (.invokevirtual 366, 3) := by decide +kernel
theorem dX8_tale_49 : decode cX8_tale 49 = .ok (.ifCond .eq 7, 3) := by decide +kernel
theorem dX8_tale_52 : decode cX8_tale 52 = .ok (.iconst 2, 1) := by decide +kernel
theorem dX8_tale_53 : decode cX8_tale 53 = .ok (.goto 4, 3) := by decide +kernel
theorem dX8_tale_56 : decode cX8_tale 56 = .ok (.iconst 1, 1) := by decide +kernel
theorem dX8_tale_57 : decode cX8_tale 57 = .ok (.ireturn, 1) := by decide +kernel
theorem dX8_lacks_0 : decode cX8_lacks 0 = .ok (.aload_n 0, 1) := by decide +kernel
theorem dX8_lacks_1 : decode cX8_lacks 1 = .ok (.iconst 0, 1) := by decide +kernel
theorem dX8_lacks_2 : decode cX8_lacks 2 = .ok (.putfield 128, 3) := by decide +kernel
theorem dX8_lacks_5 : decode cX8_lacks 5 = .ok (.aload_n 0, 1) := by decide +kernel
theorem dX8_lacks_6 : decode cX8_lacks 6 = .ok (.iload_n 1, 1) := by decide +kernel
theorem dX8_lacks_7 : decode cX8_lacks 7 = .ok (.iload_n 2, 1) := by decide +kernel
theorem dX8_lacks_8 : decode cX8_lacks 8 = .ok (.iload_n 3, 1) := by decide +kernel
theorem dX8_lacks_9 : decode cX8_lacks 9 = .ok (.iload 4, 2) := by decide +kernel
theorem dX8_lacks_11 : decode cX8_lacks 11 = .ok (.invokevirtual 359, 3) := by decide +kernel
theorem dX8_lacks_14 : decode cX8_lacks 14 = .ok (.ifCond .ne 9, 3) := by decide +kernel
theorem dX8_lacks_17 : decode cX8_lacks 17 = .ok (.aload_n 0, 1) := by decide +kernel
theorem dX8_lacks_18 : decode cX8_lacks 18 = .ok (.iconst 1, 1) := by decide +kernel
theorem dX8_lacks_19 : decode cX8_lacks 19 = .ok (.invokevirtual 232, 3) := by decide +kernel
theorem dX8_lacks_22 : decode cX8_lacks 22 = .ok (.ireturn, 1) := by decide +kernel
theorem dX8_lacks_23 : decode cX8_lacks 23 = .ok (.aload_n 0, 1) := by decide +kernel
theorem dX8_lacks_24 : decode cX8_lacks 24 = .ok (.iload_n 2, 1) := by decide +kernel
theorem dX8_lacks_25 : decode cX8_lacks 25 = .ok (.iload_n 3, 1) := by decide +kernel
theorem dX8_lacks_26 : decode cX8_lacks 26 = .ok (.iload 4, 2) := by decide +kernel
theorem dX8_lacks_28 : decode cX8_lacks 28 = .ok (.invokevirtual 363, 3) := by decide +kernel
theorem dX8_lacks_31 : decode cX8_lacks 31 = .ok (.istore 5, 2) := by decide +kernel
theorem dX8_lacks_33 : decode cX8_lacks 33 = .ok (.iload 5, 2) := by decide +kernel
theorem dX8_lacks_35 : decode cX8_lacks 35 = .ok (.ifCond .eq 13, 3) := by decide +kernel
theorem dX8_lacks_38 : decode cX8_lacks 38 = .ok (.iload 5, 2) := by decide +kernel
theorem dX8_lacks_40 : decode cX8_lacks 40 = .ok (.iload_n 1, 1) := by decide +kernel
theorem dX8_lacks_41 : decode cX8_lacks 41 = .ok (.ishr, 1) := by decide +kernel
theorem dX8_lacks_42 : decode cX8_lacks 42 = .ok (.iconst 1, 1) := by decide +kernel
theorem dX8_lacks_43 : decode cX8_lacks 43 = .ok (.iand, 1) := by decide +kernel
theorem dX8_lacks_44 : decode cX8_lacks 44 = .ok (.iconst 1, 1) := by decide +kernel
theorem dX8_lacks_45 : decode cX8_lacks 45 = .ok (.if_icmp .ne 5, 3) := by decide +kernel
theorem dX8_lacks_48 : decode cX8_lacks 48 = .ok (.iconst (-1), 1) := by decide +kernel
theorem dX8_lacks_49 : decode cX8_lacks 49 = .ok (.ireturn, 1) := by decide +kernel
theorem dX8_lacks_50 : decode cX8_lacks 50 = .ok (.iconst 0, 1) := by decide +kernel
theorem dX8_lacks_51 : decode cX8_lacks 51 = .ok (.istore 6, 2) := by decide +kernel
theorem dX8_lacks_53 : decode cX8_lacks 53 = .ok (.iload 5, 2) := by decide +kernel
theorem dX8_lacks_55 : decode cX8_lacks 55 = .ok (.iload 6, 2) := by decide +kernel
theorem dX8_lacks_57 : decode cX8_lacks 57 = .ok (.ishr, 1) := by decide +kernel
theorem dX8_lacks_58 : decode cX8_lacks 58 = .ok (.iconst 1, 1) := by decide +kernel
theorem dX8_lacks_59 : decode cX8_lacks 59 = .ok (.iand, 1) := by decide +kernel
theorem dX8_lacks_60 : decode cX8_lacks 60 = .ok (.ifCond .ne 9, 3) := by decide +kernel
theorem dX8_lacks_63 : decode cX8_lacks 63 = .ok (.iinc 6 1, 3) := by decide +kernel
theorem dX8_lacks_66 : decode cX8_lacks 66 = .ok (.goto (-13), 3) := by decide +kernel
theorem dX8_lacks_69 : decode cX8_lacks 69 = .ok (.iload 6, 2) := by decide +kernel
theorem dX8_lacks_71 : decode cX8_lacks 71 = .ok (.ireturn, 1) := by decide +kernel
theorem dX8_image_0 : decode cX8_image 0 = .ok (.aload_n 0, 1) := by decide +kernel
theorem dX8_image_1 : decode cX8_image 1 = .ok (.iconst 0, 1) := by decide +kernel
theorem dX8_image_2 : decode cX8_image 2 = .ok (.putfield 128, 3) := by decide +kernel
theorem dX8_image_5 : decode cX8_image 5 = .ok (.aload_n 0, 1) := by decide +kernel
theorem dX8_image_6 : decode cX8_image 6 = .ok (.iconst 1, 1) := by decide +kernel
theorem dX8_image_7 : decode cX8_image 7 = .ok (.putfield 249, 3) := by decide +kernel
theorem dX8_image_10 : decode cX8_image 10 = .ok (.aload_n 0, 1) := by decide +kernel
theorem dX8_image_11 : decode cX8_image 11 = .ok (.iconst 0, 1) := by decide +kernel
theorem dX8_image_12 : decode cX8_image 12 = .ok (.iconst 2, 1) := by decide +kernel
theorem dX8_image_13 : decode cX8_image 13 = .ok (.invokevirtual 369, 3) := by decide +kernel
theorem dX8_image_16 : decode cX8_image 16 = .ok (.aload_n 0, 1) := by decide +kernel
theorem dX8_image_17 : decode cX8_image 17 = .ok (.aload_n 0, 1) := by decide +kernel
theorem dX8_image_18 : decode cX8_image 18 = .ok (.getfield 242, 3) := by decide +kernel
theorem dX8_image_21 : decode cX8_image 21 = .ok (.putfield 372, 3) := by decide +kernel
theorem dX8_image_24 : decode cX8_image 24 = .ok (.iconst 0, 1) := by decide +kernel
theorem dX8_image_25 : decode cX8_image 25 = .ok (.istore_n 1, 1) := by decide +kernel
theorem dX8_image_26 : decode cX8_image 26 = .ok (.iload_n 1, 1) := by decide +kernel
theorem dX8_image_27 : decode cX8_image 27 = .ok (.aload_n 0, 1) := by decide +kernel
theorem dX8_image_28 : decode cX8_image 28 = .ok (.getfield 242, 3) := by decide +kernel
theorem dX8_image_31 : decode cX8_image 31 = .ok (.if_icmp .ge 71, 3) := by decide +kernel
theorem dX8_image_34 : decode cX8_image 34 = .ok (.aload_n 0, 1) := by decide +kernel
theorem dX8_image_35 : decode cX8_image 35 = .ok (.getfield 118, 3) := by decide +kernel
theorem dX8_image_38 : decode cX8_image 38 = .ok (.iconst 4, 1) := by decide +kernel
theorem dX8_image_39 : decode cX8_image 39 = .ok (.iload_n 1, 1) := by decide +kernel
theorem dX8_image_40 : decode cX8_image 40 = .ok (.imul, 1) := by decide +kernel
theorem dX8_image_41 : decode cX8_image 41 = .ok (.aload_n 0, 1) := by decide +kernel
theorem dX8_image_42 : decode cX8_image 42 = .ok (.getfield 40, 3) := by decide +kernel
theorem dX8_image_45 : decode cX8_image 45 = .ok (.iload_n 1, 1) := by decide +kernel
theorem dX8_image_46 : decode cX8_image 46 = .ok (.iaload, 1) := by decide +kernel
theorem dX8_image_47 : decode cX8_image 47 = .ok (.iastore, 1) := by decide +kernel
theorem dX8_image_48 : decode cX8_image 48 = .ok (.aload_n 0, 1) := by decide +kernel
theorem dX8_image_49 : decode cX8_image 49 = .ok (.getfield 118, 3) := by decide +kernel
theorem dX8_image_52 : decode cX8_image 52 = .ok (.iconst 4, 1) := by decide +kernel
theorem dX8_image_53 : decode cX8_image 53 = .ok (.iload_n 1, 1) := by decide +kernel
theorem dX8_image_54 : decode cX8_image 54 = .ok (.imul, 1) := by decide +kernel
theorem dX8_image_55 : decode cX8_image 55 = .ok (.iconst 1, 1) := by decide +kernel
theorem dX8_image_56 : decode cX8_image 56 = .ok (.iadd, 1) := by decide +kernel
theorem dX8_image_57 : decode cX8_image 57 = .ok (.aload_n 0, 1) := by decide +kernel
theorem dX8_image_58 : decode cX8_image 58 = .ok (.getfield 43, 3) := by decide +kernel
theorem dX8_image_61 : decode cX8_image 61 = .ok (.iload_n 1, 1) := by decide +kernel
theorem dX8_image_62 : decode cX8_image 62 = .ok (.iaload, 1) := by decide +kernel
theorem dX8_image_63 : decode cX8_image 63 = .ok (.iastore, 1) := by decide +kernel
theorem dX8_image_64 : decode cX8_image 64 = .ok (.aload_n 0, 1) := by decide +kernel
theorem dX8_image_65 : decode cX8_image 65 = .ok (.getfield 118, 3) := by decide +kernel
theorem dX8_image_68 : decode cX8_image 68 = .ok (.iconst 4, 1) := by decide +kernel
theorem dX8_image_69 : decode cX8_image 69 = .ok (.iload_n 1, 1) := by decide +kernel
theorem dX8_image_70 : decode cX8_image 70 = .ok (.imul, 1) := by decide +kernel
theorem dX8_image_71 : decode cX8_image 71 = .ok (.iconst 2, 1) := by decide +kernel
theorem dX8_image_72 : decode cX8_image 72 = .ok (.iadd, 1) := by decide +kernel
theorem dX8_image_73 : decode cX8_image 73 = .ok (.aload_n 0, 1) := by decide +kernel
theorem dX8_image_74 : decode cX8_image 74 = .ok (.getfield 46, 3) := by decide +kernel
theorem dX8_image_77 : decode cX8_image 77 = .ok (.iload_n 1, 1) := by decide +kernel
theorem dX8_image_78 : decode cX8_image 78 = .ok (.iaload, 1) := by decide +kernel
theorem dX8_image_79 : decode cX8_image 79 = .ok (.iastore, 1) := by decide +kernel
theorem dX8_image_80 : decode cX8_image 80 = .ok (.aload_n 0, 1) := by decide +kernel
theorem dX8_image_81 : decode cX8_image 81 = .ok (.getfield 118, 3) := by decide +kernel
theorem dX8_image_84 : decode cX8_image 84 = .ok (.iconst 4, 1) := by decide +kernel
theorem dX8_image_85 : decode cX8_image 85 = .ok (.iload_n 1, 1) := by decide +kernel
theorem dX8_image_86 : decode cX8_image 86 = .ok (.imul, 1) := by decide +kernel
theorem dX8_image_87 : decode cX8_image 87 = .ok (.iconst 3, 1) := by decide +kernel
theorem dX8_image_88 : decode cX8_image 88 = .ok (.iadd, 1) := by decide +kernel
theorem dX8_image_89 : decode cX8_image 89 = .ok (.aload_n 0, 1) := by decide +kernel
theorem dX8_image_90 : decode cX8_image 90 = .ok (.getfield 49, 3) := by decide +kernel
theorem dX8_image_93 : decode cX8_image 93 = .ok (.iload_n 1, 1) := by decide +kernel
theorem dX8_image_94 : decode cX8_image 94 = .ok (.iaload, 1) := by decide +kernel
theorem dX8_image_95 : decode cX8_image 95 = .ok (.iastore, 1) := by decide +kernel
theorem dX8_image_96 : decode cX8_image 96 = .ok (.iinc 1 1, 3) := by decide +kernel
theorem dX8_image_99 : decode cX8_image 99 = .ok (.goto (-73), 3) := by decide +kernel
theorem dX8_image_102 : decode cX8_image 102 = .ok (.aload_n 0, 1) := by decide +kernel
theorem dX8_image_103 : decode cX8_image 103 = .ok (.getfield 121, 3) := by decide +kernel
theorem dX8_image_106 : decode cX8_image 106 = .ok (.iconst 0, 1) := by decide +kernel
theorem dX8_image_107 : decode cX8_image 107 = .ok (.aload_n 0, 1) := by decide +kernel
theorem dX8_image_108 : decode cX8_image 108 = .ok (.getfield 52, 3) := by decide +kernel
theorem dX8_image_111 : decode cX8_image 111 = .ok (.iconst 0, 1) := by decide +kernel
theorem dX8_image_112 : decode cX8_image 112 = .ok (.iaload, 1) := by decide +kernel
theorem dX8_image_113 : decode cX8_image 113 = .ok (.iastore, 1) := by decide +kernel
theorem dX8_image_114 : decode cX8_image 114 = .ok (.aload_n 0, 1) := by decide +kernel
theorem dX8_image_115 : decode cX8_image 115 = .ok (.getfield 121, 3) := by decide +kernel
theorem dX8_image_118 : decode cX8_image 118 = .ok (.iconst 1, 1) := by decide +kernel
theorem dX8_image_119 : decode cX8_image 119 = .ok (.aload_n 0, 1) := by decide +kernel
theorem dX8_image_120 : decode cX8_image 120 = .ok (.getfield 52, 3) := by decide +kernel
theorem dX8_image_123 : decode cX8_image 123 = .ok (.iconst 1, 1) := by decide +kernel
theorem dX8_image_124 : decode cX8_image 124 = .ok (.iaload, 1) := by decide +kernel
theorem dX8_image_125 : decode cX8_image 125 = .ok (.iastore, 1) := by decide +kernel
theorem dX8_image_126 : decode cX8_image 126 = .ok (.return_, 1) := by decide +kernel
theorem dX8_restore_0 : decode cX8_restore 0 = .ok (.aload_n 0, 1) := by decide +kernel
theorem dX8_restore_1 : decode cX8_restore 1 = .ok (.iconst 0, 1) := by decide +kernel
theorem dX8_restore_2 : decode cX8_restore 2 = .ok (.putfield 128, 3) := by decide +kernel
theorem dX8_restore_5 : decode cX8_restore 5 = .ok (.aload_n 0, 1) := by decide +kernel
theorem dX8_restore_6 : decode cX8_restore 6 = .ok (.getfield 249, 3) := by decide +kernel
theorem dX8_restore_9 : decode cX8_restore 9 = .ok (.ifCond .ne 5, 3) := by decide +kernel
theorem dX8_restore_12 : decode cX8_restore 12 = .ok (.iconst 0, 1) := by decide +kernel
theorem dX8_restore_13 : decode cX8_restore 13 = .ok (.ireturn, 1) := by decide +kernel
theorem dX8_restore_14 : decode cX8_restore 14 = .ok (.aload_n 0, 1) := by decide +kernel
theorem dX8_restore_15 : decode cX8_restore 15 = .ok (.iconst 2, 1) := by decide +kernel
theorem dX8_restore_16 : decode cX8_restore 16 = .ok (.iconst 0, 1) := by decide +kernel
theorem dX8_restore_17 : decode cX8_restore 17 = .ok (.invokevirtual 369, 3) := by decide +kernel
theorem dX8_restore_20 : decode cX8_restore 20 = .ok (.aload_n 0, 1) := by decide +kernel
theorem dX8_restore_21 : decode cX8_restore 21 = .ok (.aload_n 0, 1) := by decide +kernel
theorem dX8_restore_22 : decode cX8_restore 22 = .ok (.getfield 372, 3) := by decide +kernel
theorem dX8_restore_25 : decode cX8_restore 25 = .ok (.putfield 242, 3) := by decide +kernel
theorem dX8_restore_28 : decode cX8_restore 28 = .ok (.iconst 0, 1) := by decide +kernel
theorem dX8_restore_29 : decode cX8_restore 29 = .ok (.istore_n 1, 1) := by decide +kernel
theorem dX8_restore_30 : decode cX8_restore 30 = .ok (.iload_n 1, 1) := by decide +kernel
theorem dX8_restore_31 : decode cX8_restore 31 = .ok (.aload_n 0, 1) := by decide +kernel
theorem dX8_restore_32 : decode cX8_restore 32 = .ok (.getfield 242, 3) := by decide +kernel
theorem dX8_restore_35 : decode cX8_restore 35 = .ok (.if_icmp .ge 71, 3) := by decide +kernel
theorem dX8_restore_38 : decode cX8_restore 38 = .ok (.aload_n 0, 1) := by decide +kernel
theorem dX8_restore_39 : decode cX8_restore 39 = .ok (.getfield 40, 3) := by decide +kernel
theorem dX8_restore_42 : decode cX8_restore 42 = .ok (.iload_n 1, 1) := by decide +kernel
theorem dX8_restore_43 : decode cX8_restore 43 = .ok (.aload_n 0, 1) := by decide +kernel
theorem dX8_restore_44 : decode cX8_restore 44 = .ok (.getfield 118, 3) := by decide +kernel
theorem dX8_restore_47 : decode cX8_restore 47 = .ok (.iconst 4, 1) := by decide +kernel
theorem dX8_restore_48 : decode cX8_restore 48 = .ok (.iload_n 1, 1) := by decide +kernel
theorem dX8_restore_49 : decode cX8_restore 49 = .ok (.imul, 1) := by decide +kernel
theorem dX8_restore_50 : decode cX8_restore 50 = .ok (.iaload, 1) := by decide +kernel
theorem dX8_restore_51 : decode cX8_restore 51 = .ok (.iastore, 1) := by decide +kernel
theorem dX8_restore_52 : decode cX8_restore 52 = .ok (.aload_n 0, 1) := by decide +kernel
theorem dX8_restore_53 : decode cX8_restore 53 = .ok (.getfield 43, 3) := by decide +kernel
theorem dX8_restore_56 : decode cX8_restore 56 = .ok (.iload_n 1, 1) := by decide +kernel
theorem dX8_restore_57 : decode cX8_restore 57 = .ok (.aload_n 0, 1) := by decide +kernel
theorem dX8_restore_58 : decode cX8_restore 58 = .ok (.getfield 118, 3) := by decide +kernel
theorem dX8_restore_61 : decode cX8_restore 61 = .ok (.iconst 4, 1) := by decide +kernel
theorem dX8_restore_62 : decode cX8_restore 62 = .ok (.iload_n 1, 1) := by decide +kernel
theorem dX8_restore_63 : decode cX8_restore 63 = .ok (.imul, 1) := by decide +kernel
theorem dX8_restore_64 : decode cX8_restore 64 = .ok (.iconst 1, 1) := by decide +kernel
theorem dX8_restore_65 : decode cX8_restore 65 = .ok (.iadd, 1) := by decide +kernel
theorem dX8_restore_66 : decode cX8_restore 66 = .ok (.iaload, 1) := by decide +kernel
theorem dX8_restore_67 : decode cX8_restore 67 = .ok (.iastore, 1) := by decide +kernel
theorem dX8_restore_68 : decode cX8_restore 68 = .ok (.aload_n 0, 1) := by decide +kernel
theorem dX8_restore_69 : decode cX8_restore 69 = .ok (.getfield 46, 3) := by decide +kernel
theorem dX8_restore_72 : decode cX8_restore 72 = .ok (.iload_n 1, 1) := by decide +kernel
theorem dX8_restore_73 : decode cX8_restore 73 = .ok (.aload_n 0, 1) := by decide +kernel
theorem dX8_restore_74 : decode cX8_restore 74 = .ok (.getfield 118, 3) := by decide +kernel
theorem dX8_restore_77 : decode cX8_restore 77 = .ok (.iconst 4, 1) := by decide +kernel
theorem dX8_restore_78 : decode cX8_restore 78 = .ok (.iload_n 1, 1) := by decide +kernel
theorem dX8_restore_79 : decode cX8_restore 79 = .ok (.imul, 1) := by decide +kernel
theorem dX8_restore_80 : decode cX8_restore 80 = .ok (.iconst 2, 1) := by decide +kernel
theorem dX8_restore_81 : decode cX8_restore 81 = .ok (.iadd, 1) := by decide +kernel
theorem dX8_restore_82 : decode cX8_restore 82 = .ok (.iaload, 1) := by decide +kernel
theorem dX8_restore_83 : decode cX8_restore 83 = .ok (.iastore, 1) := by decide +kernel
theorem dX8_restore_84 : decode cX8_restore 84 = .ok (.aload_n 0, 1) := by decide +kernel
theorem dX8_restore_85 : decode cX8_restore 85 = .ok (.getfield 49, 3) := by decide +kernel
theorem dX8_restore_88 : decode cX8_restore 88 = .ok (.iload_n 1, 1) := by decide +kernel
theorem dX8_restore_89 : decode cX8_restore 89 = .ok (.aload_n 0, 1) := by decide +kernel
theorem dX8_restore_90 : decode cX8_restore 90 = .ok (.getfield 118, 3) := by decide +kernel
theorem dX8_restore_93 : decode cX8_restore 93 = .ok (.iconst 4, 1) := by decide +kernel
theorem dX8_restore_94 : decode cX8_restore 94 = .ok (.iload_n 1, 1) := by decide +kernel
theorem dX8_restore_95 : decode cX8_restore 95 = .ok (.imul, 1) := by decide +kernel
theorem dX8_restore_96 : decode cX8_restore 96 = .ok (.iconst 3, 1) := by decide +kernel
theorem dX8_restore_97 : decode cX8_restore 97 = .ok (.iadd, 1) := by decide +kernel
theorem dX8_restore_98 : decode cX8_restore 98 = .ok (.iaload, 1) := by decide +kernel
theorem dX8_restore_99 : decode cX8_restore 99 = .ok (.iastore, 1) := by decide +kernel
theorem dX8_restore_100 : decode cX8_restore 100 = .ok (.iinc 1 1, 3) := by decide +kernel
theorem dX8_restore_103 : decode cX8_restore 103 = .ok (.goto (-73), 3) := by decide +kernel
theorem dX8_restore_106 : decode cX8_restore 106 = .ok (.aload_n 0, 1) := by decide +kernel
theorem dX8_restore_107 : decode cX8_restore 107 = .ok (.getfield 52, 3) := by decide +kernel
theorem dX8_restore_110 : decode cX8_restore 110 = .ok (.iconst 0, 1) := by decide +kernel
theorem dX8_restore_111 : decode cX8_restore 111 = .ok (.aload_n 0, 1) := by decide +kernel
theorem dX8_restore_112 : decode cX8_restore 112 = .ok (.getfield 121, 3) := by decide +kernel
theorem dX8_restore_115 : decode cX8_restore 115 = .ok (.iconst 0, 1) := by decide +kernel
theorem dX8_restore_116 : decode cX8_restore 116 = .ok (.iaload, 1) := by decide +kernel
theorem dX8_restore_117 : decode cX8_restore 117 = .ok (.iastore, 1) := by decide +kernel
theorem dX8_restore_118 : decode cX8_restore 118 = .ok (.aload_n 0, 1) := by decide +kernel
theorem dX8_restore_119 : decode cX8_restore 119 = .ok (.getfield 52, 3) := by decide +kernel
theorem dX8_restore_122 : decode cX8_restore 122 = .ok (.iconst 1, 1) := by decide +kernel
theorem dX8_restore_123 : decode cX8_restore 123 = .ok (.aload_n 0, 1) := by decide +kernel
theorem dX8_restore_124 : decode cX8_restore 124 = .ok (.getfield 121, 3) := by decide +kernel
theorem dX8_restore_127 : decode cX8_restore 127 = .ok (.iconst 1, 1) := by decide +kernel
theorem dX8_restore_128 : decode cX8_restore 128 = .ok (.iaload, 1) := by decide +kernel
theorem dX8_restore_129 : decode cX8_restore 129 = .ok (.iastore, 1) := by decide +kernel
theorem dX8_restore_130 : decode cX8_restore 130 = .ok (.iconst 1, 1) := by decide +kernel
theorem dX8_restore_131 : decode cX8_restore 131 = .ok (.ireturn, 1) := by decide +kernel
theorem dJ9_min_7cf53_0 : decode cJ9_min_7cf53 0 = .ok (.iload_n 0, 1) := by decide +kernel
theorem dJ9_min_7cf53_1 : decode cJ9_min_7cf53 1 = .ok (.iload_n 1, 1) := by decide +kernel
theorem dJ9_min_7cf53_2 : decode cJ9_min_7cf53 2 = .ok (.if_icmp .gt 7, 3) := by decide +kernel
theorem dJ9_min_7cf53_5 : decode cJ9_min_7cf53 5 = .ok (.iload_n 0, 1) := by decide +kernel
theorem dJ9_min_7cf53_6 : decode cJ9_min_7cf53 6 = .ok (.goto 4, 3) := by decide +kernel
theorem dJ9_min_7cf53_9 : decode cJ9_min_7cf53 9 = .ok (.iload_n 1, 1) := by decide +kernel
theorem dJ9_min_7cf53_10 : decode cJ9_min_7cf53 10 = .ok (.ireturn, 1) := by decide +kernel
theorem dJ0_length_8abf5_0 : decode cJ0_length_8abf5 0 = .ok (.aload_n 0, 1) := by decide +kernel
theorem dJ0_length_8abf5_1 : decode cJ0_length_8abf5 1 = .ok (.getfield 9, 3) := by decide +kernel
theorem dJ0_length_8abf5_4 : decode cJ0_length_8abf5 4 = .ok (.arraylength, 1) := by decide +kernel
theorem dJ0_length_8abf5_5 : decode cJ0_length_8abf5 5 = .ok (.aload_n 0, 1) := by decide +kernel
theorem dJ0_length_8abf5_6 : decode cJ0_length_8abf5 6 = .ok (.invokevirtual 335, 3) := by decide +kernel
theorem dJ0_length_8abf5_9 : decode cJ0_length_8abf5 9 = .ok (.ishr, 1) := by decide +kernel
theorem dJ0_length_8abf5_10 : decode cJ0_length_8abf5 10 = .ok (.ireturn, 1) := by decide +kernel
theorem dJ0_charAt_5068e_0 : decode cJ0_charAt_5068e 0 = .ok (.aload_n 0, 1) := by decide +kernel
theorem dJ0_charAt_5068e_1 : decode cJ0_charAt_5068e 1 = .ok (.invokevirtual 492, 3) := by decide +kernel
theorem dJ0_charAt_5068e_4 : decode cJ0_charAt_5068e 4 = .ok (.ifCond .eq 12, 3) := by decide +kernel
theorem dJ0_charAt_5068e_7 : decode cJ0_charAt_5068e 7 = .ok (.aload_n 0, 1) := by decide +kernel
theorem dJ0_charAt_5068e_8 : decode cJ0_charAt_5068e 8 = .ok (.getfield 9, 3) := by decide +kernel
theorem dJ0_charAt_5068e_11 : decode cJ0_charAt_5068e 11 = .ok (.iload_n 1, 1) := by decide +kernel
theorem dJ0_charAt_5068e_12 : decode cJ0_charAt_5068e 12 = .ok (.invokestatic 495, 3) := by decide +kernel
theorem dJ0_charAt_5068e_15 : decode cJ0_charAt_5068e 15 = .ok (.ireturn, 1) := by decide +kernel
theorem dJ0_charAt_5068e_16 : decode cJ0_charAt_5068e 16 = .ok (.aload_n 0, 1) := by decide +kernel
theorem dJ0_charAt_5068e_17 : decode cJ0_charAt_5068e 17 = .ok (.getfield 9, 3) := by decide +kernel
theorem dJ0_charAt_5068e_20 : decode cJ0_charAt_5068e 20 = .ok (.iload_n 1, 1) := by decide +kernel
theorem dJ0_charAt_5068e_21 : decode cJ0_charAt_5068e 21 = .ok (.invokestatic 498, 3) := by decide +kernel
theorem dJ0_charAt_5068e_24 : decode cJ0_charAt_5068e 24 = .ok (.ireturn, 1) := by decide +kernel
theorem dJ0_coder_7d493_0 : decode cJ0_coder_7d493 0 = .ok (.getstatic 38, 3) := by decide +kernel
theorem dJ0_coder_7d493_3 : decode cJ0_coder_7d493 3 = .ok (.ifCond .eq 10, 3) := by decide +kernel
theorem dJ0_coder_7d493_6 : decode cJ0_coder_7d493 6 = .ok (.aload_n 0, 1) := by decide +kernel
theorem dJ0_coder_7d493_7 : decode cJ0_coder_7d493 7 = .ok (.getfield 15, 3) := by decide +kernel
theorem dJ0_coder_7d493_10 : decode cJ0_coder_7d493 10 = .ok (.goto 4, 3) := by decide +kernel
theorem dJ0_coder_7d493_13 : decode cJ0_coder_7d493 13 = .ok (.iconst 1, 1) := by decide +kernel
theorem dJ0_coder_7d493_14 : decode cJ0_coder_7d493 14 = .ok (.ireturn, 1) := by decide +kernel
theorem dJ0_isLatin1_aae02_0 : decode cJ0_isLatin1_aae02 0 = .ok (.getstatic 38, 3) := by decide +kernel
theorem dJ0_isLatin1_aae02_3 : decode cJ0_isLatin1_aae02 3 = .ok (.ifCond .eq 14, 3) := by decide +kernel
theorem dJ0_isLatin1_aae02_6 : decode cJ0_isLatin1_aae02 6 = .ok (.aload_n 0, 1) := by decide +kernel
theorem dJ0_isLatin1_aae02_7 : decode cJ0_isLatin1_aae02 7 = .ok (.getfield 15, 3) := by decide +kernel
theorem dJ0_isLatin1_aae02_10 : decode cJ0_isLatin1_aae02 10 = .ok (.ifCond .ne 7, 3) := by decide +kernel
theorem dJ0_isLatin1_aae02_13 : decode cJ0_isLatin1_aae02 13 = .ok (.iconst 1, 1) := by decide +kernel
theorem dJ0_isLatin1_aae02_14 : decode cJ0_isLatin1_aae02 14 = .ok (.goto 4, 3) := by decide +kernel
theorem dJ0_isLatin1_aae02_17 : decode cJ0_isLatin1_aae02 17 = .ok (.iconst 0, 1) := by decide +kernel
theorem dJ0_isLatin1_aae02_18 : decode cJ0_isLatin1_aae02 18 = .ok (.ireturn, 1) := by decide +kernel
theorem dJ0_checkIndex_df160_0 : decode cJ0_checkIndex_df160 0 = .ok (.iload_n 0, 1) := by decide +kernel
theorem dJ0_checkIndex_df160_1 : decode cJ0_checkIndex_df160 1 = .ok (.iload_n 1, 1) := by decide +kernel
theorem dJ0_checkIndex_df160_2 : decode cJ0_checkIndex_df160 2 = .ok (.getstatic 1053, 3) := by decide +kernel
theorem dJ0_checkIndex_df160_5 : decode cJ0_checkIndex_df160 5 = .ok (.invokestatic 1059, 3) := by decide +kernel
theorem dJ0_checkIndex_df160_8 : decode cJ0_checkIndex_df160 8 = .ok (.pop, 1) := by decide +kernel
theorem dJ0_checkIndex_df160_9 : decode cJ0_checkIndex_df160 9 = .ok (.return_, 1) := by decide +kernel
theorem dJ1_charAt_3b067_0 : decode cJ1_charAt_3b067 0 = .ok (.iload_n 1, 1) := by decide +kernel
theorem dJ1_charAt_3b067_1 : decode cJ1_charAt_3b067 1 = .ok (.aload_n 0, 1) := by decide +kernel
theorem dJ1_charAt_3b067_2 : decode cJ1_charAt_3b067 2 = .ok (.arraylength, 1) := by decide +kernel
theorem dJ1_charAt_3b067_3 : decode cJ1_charAt_3b067 3 = .ok (.invokestatic 9, 3) := by decide +kernel
theorem dJ1_charAt_3b067_6 : decode cJ1_charAt_3b067 6 = .ok (.aload_n 0, 1) := by decide +kernel
theorem dJ1_charAt_3b067_7 : decode cJ1_charAt_3b067 7 = .ok (.iload_n 1, 1) := by decide +kernel
theorem dJ1_charAt_3b067_8 : decode cJ1_charAt_3b067 8 = .ok (.baload, 1) := by decide +kernel
theorem dJ1_charAt_3b067_9 : decode cJ1_charAt_3b067 9 = .ok (.sipush 255, 3) := by decide +kernel
theorem dJ1_charAt_3b067_12 : decode cJ1_charAt_3b067 12 = .ok (.iand, 1) := by decide +kernel
theorem dJ1_charAt_3b067_13 : decode cJ1_charAt_3b067 13 = .ok (.i2c, 1) := by decide +kernel
theorem dJ1_charAt_3b067_14 : decode cJ1_charAt_3b067 14 = .ok (.ireturn, 1) := by decide +kernel
theorem dJ2_getChar_3b067_0 : decode cJ2_getChar_3b067 0 = .ok (.getstatic 44, 3) := by decide +kernel
theorem dJ2_getChar_3b067_3 : decode cJ2_getChar_3b067 3 = .ok (.ifCond .ne 25, 3) := by decide +kernel
theorem dJ2_getChar_3b067_6 : decode cJ2_getChar_3b067 6 = .ok (.iload_n 1, 1) := by decide +kernel
theorem dJ2_getChar_3b067_7 : decode cJ2_getChar_3b067 7 = .ok (.ifCond .lt 11, 3) := by decide +kernel
theorem dJ2_getChar_3b067_10 : decode cJ2_getChar_3b067 10 = .ok (.iload_n 1, 1) := by decide +kernel
theorem dJ2_getChar_3b067_11 : decode cJ2_getChar_3b067 11 = .ok (.aload_n 0, 1) := by decide +kernel
theorem dJ2_getChar_3b067_12 : decode cJ2_getChar_3b067 12 = .ok (.invokestatic 48, 3) := by decide +kernel
theorem dJ2_getChar_3b067_15 : decode cJ2_getChar_3b067 15 = .ok (.if_icmp .lt 13, 3) := by decide +kernel
theorem dJ2_getChar_3b067_18 : decode cJ2_getChar_3b067 18 = .ok (.new 52, 3) := by decide +kernel
theorem dJ2_getChar_3b067_21 : decode cJ2_getChar_3b067 21 = .ok (.dup, 1) := by decide +kernel
theorem dJ2_getChar_3b067_22 : decode cJ2_getChar_3b067 22 = .ok (.ldc 54, 2) := by decide +kernel
theorem dJ2_getChar_3b067_24 : decode cJ2_getChar_3b067 24 = .ok (.invokespecial 56, 3) := by decide +kernel
theorem dJ2_getChar_3b067_27 : decode cJ2_getChar_3b067 27 = .ok (.athrow, 1) := by decide +kernel
theorem dJ2_getChar_3b067_28 : decode cJ2_getChar_3b067 28 = .ok (.iload_n 1, 1) := by decide +kernel
theorem dJ2_getChar_3b067_29 : decode cJ2_getChar_3b067 29 = .ok (.iconst 1, 1) := by decide +kernel
theorem dJ2_getChar_3b067_30 : decode cJ2_getChar_3b067 30 = .ok (.ishl, 1) := by decide +kernel
theorem dJ2_getChar_3b067_31 : decode cJ2_getChar_3b067 31 = .ok (.istore_n 1, 1) := by decide +kernel
theorem dJ2_getChar_3b067_32 : decode cJ2_getChar_3b067 32 = .ok (.aload_n 0, 1) := by decide +kernel
theorem dJ2_getChar_3b067_33 : decode cJ2_getChar_3b067 33 = .ok (.iload_n 1, 1) := by decide +kernel
theorem dJ2_getChar_3b067_34 : decode cJ2_getChar_3b067 34 = .ok (.iinc 1 1, 3) := by decide +kernel
theorem dJ2_getChar_3b067_37 : decode cJ2_getChar_3b067 37 = .ok (.baload, 1) := by decide +kernel
theorem dJ2_getChar_3b067_38 : decode cJ2_getChar_3b067 38 = .ok (.sipush 255, 3) := by decide +kernel
theorem dJ2_getChar_3b067_41 : decode cJ2_getChar_3b067 41 = .ok (.iand, 1) := by decide +kernel
theorem dJ2_getChar_3b067_42 : decode cJ2_getChar_3b067 42 = .ok (.getstatic 59, 3) := by decide +kernel
theorem dJ2_getChar_3b067_45 : decode cJ2_getChar_3b067 45 = .ok (.ishl, 1) := by decide +kernel
theorem dJ2_getChar_3b067_46 : decode cJ2_getChar_3b067 46 = .ok (.aload_n 0, 1) := by decide +kernel
theorem dJ2_getChar_3b067_47 : decode cJ2_getChar_3b067 47 = .ok (.iload_n 1, 1) := by decide +kernel
theorem dJ2_getChar_3b067_48 : decode cJ2_getChar_3b067 48 = .ok (.baload, 1) := by decide +kernel
theorem dJ2_getChar_3b067_49 : decode cJ2_getChar_3b067 49 = .ok (.sipush 255, 3) := by decide +kernel
theorem dJ2_getChar_3b067_52 : decode cJ2_getChar_3b067 52 = .ok (.iand, 1) := by decide +kernel
theorem dJ2_getChar_3b067_53 : decode cJ2_getChar_3b067 53 = .ok (.getstatic 63, 3) := by decide +kernel
theorem dJ2_getChar_3b067_56 : decode cJ2_getChar_3b067 56 = .ok (.ishl, 1) := by decide +kernel
theorem dJ2_getChar_3b067_57 : decode cJ2_getChar_3b067 57 = .ok (.ior, 1) := by decide +kernel
theorem dJ2_getChar_3b067_58 : decode cJ2_getChar_3b067 58 = .ok (.i2c, 1) := by decide +kernel
theorem dJ2_getChar_3b067_59 : decode cJ2_getChar_3b067 59 = .ok (.ireturn, 1) := by decide +kernel
theorem dJ2_length_9d52b_0 : decode cJ2_length_9d52b 0 = .ok (.aload_n 0, 1) := by decide +kernel
theorem dJ2_length_9d52b_1 : decode cJ2_length_9d52b 1 = .ok (.arraylength, 1) := by decide +kernel
theorem dJ2_length_9d52b_2 : decode cJ2_length_9d52b 2 = .ok (.iconst 1, 1) := by decide +kernel
theorem dJ2_length_9d52b_3 : decode cJ2_length_9d52b 3 = .ok (.ishr, 1) := by decide +kernel
theorem dJ2_length_9d52b_4 : decode cJ2_length_9d52b 4 = .ok (.ireturn, 1) := by decide +kernel
theorem dJ2_charAt_3b067_0 : decode cJ2_charAt_3b067 0 = .ok (.iload_n 1, 1) := by decide +kernel
theorem dJ2_charAt_3b067_1 : decode cJ2_charAt_3b067 1 = .ok (.aload_n 0, 1) := by decide +kernel
theorem dJ2_charAt_3b067_2 : decode cJ2_charAt_3b067 2 = .ok (.invokestatic 67, 3) := by decide +kernel
theorem dJ2_charAt_3b067_5 : decode cJ2_charAt_3b067 5 = .ok (.aload_n 0, 1) := by decide +kernel
theorem dJ2_charAt_3b067_6 : decode cJ2_charAt_3b067 6 = .ok (.iload_n 1, 1) := by decide +kernel
theorem dJ2_charAt_3b067_7 : decode cJ2_charAt_3b067 7 = .ok (.invokestatic 71, 3) := by decide +kernel
theorem dJ2_charAt_3b067_10 : decode cJ2_charAt_3b067 10 = .ok (.ireturn, 1) := by decide +kernel
theorem dJ2_checkIndex_2214a_0 : decode cJ2_checkIndex_2214a 0 = .ok (.iload_n 0, 1) := by decide +kernel
theorem dJ2_checkIndex_2214a_1 : decode cJ2_checkIndex_2214a 1 = .ok (.aload_n 1, 1) := by decide +kernel
theorem dJ2_checkIndex_2214a_2 : decode cJ2_checkIndex_2214a 2 = .ok (.invokestatic 48, 3) := by decide +kernel
theorem dJ2_checkIndex_2214a_5 : decode cJ2_checkIndex_2214a 5 = .ok (.invokestatic 414, 3) := by decide +kernel
theorem dJ2_checkIndex_2214a_8 : decode cJ2_checkIndex_2214a 8 = .ok (.return_, 1) := by decide +kernel
theorem dJ7_fill_53178_0 : decode cJ7_fill_53178 0 = .ok (.iconst 0, 1) := by decide +kernel
theorem dJ7_fill_53178_1 : decode cJ7_fill_53178 1 = .ok (.istore_n 2, 1) := by decide +kernel
theorem dJ7_fill_53178_2 : decode cJ7_fill_53178 2 = .ok (.aload_n 0, 1) := by decide +kernel
theorem dJ7_fill_53178_3 : decode cJ7_fill_53178 3 = .ok (.arraylength, 1) := by decide +kernel
theorem dJ7_fill_53178_4 : decode cJ7_fill_53178 4 = .ok (.istore_n 3, 1) := by decide +kernel
theorem dJ7_fill_53178_5 : decode cJ7_fill_53178 5 = .ok (.iload_n 2, 1) := by decide +kernel
theorem dJ7_fill_53178_6 : decode cJ7_fill_53178 6 = .ok (.iload_n 3, 1) := by decide +kernel
theorem dJ7_fill_53178_7 : decode cJ7_fill_53178 7 = .ok (.if_icmp .ge 13, 3) := by decide +kernel
theorem dJ7_fill_53178_10 : decode cJ7_fill_53178 10 = .ok (.aload_n 0, 1) := by decide +kernel
theorem dJ7_fill_53178_11 : decode cJ7_fill_53178 11 = .ok (.iload_n 2, 1) := by decide +kernel
theorem dJ7_fill_53178_12 : decode cJ7_fill_53178 12 = .ok (.iload_n 1, 1) := by decide +kernel
theorem dJ7_fill_53178_13 : decode cJ7_fill_53178 13 = .ok (.iastore, 1) := by decide +kernel
theorem dJ7_fill_53178_14 : decode cJ7_fill_53178 14 = .ok (.iinc 2 1, 3) := by decide +kernel
theorem dJ7_fill_53178_17 : decode cJ7_fill_53178 17 = .ok (.goto (-12), 3) := by decide +kernel
theorem dJ7_fill_53178_20 : decode cJ7_fill_53178 20 = .ok (.return_, 1) := by decide +kernel
theorem dJ3_checkIndex_8e157_0 : decode cJ3_checkIndex_8e157 0 = .ok (.iload_n 0, 1) := by decide +kernel
theorem dJ3_checkIndex_8e157_1 : decode cJ3_checkIndex_8e157 1 = .ok (.ifCond .lt 8, 3) := by decide +kernel
theorem dJ3_checkIndex_8e157_4 : decode cJ3_checkIndex_8e157 4 = .ok (.iload_n 0, 1) := by decide +kernel
theorem dJ3_checkIndex_8e157_5 : decode cJ3_checkIndex_8e157 5 = .ok (.iload_n 1, 1) := by decide +kernel
theorem dJ3_checkIndex_8e157_6 : decode cJ3_checkIndex_8e157 6 = .ok (.if_icmp .lt 10, 3) := by decide +kernel
theorem dJ3_checkIndex_8e157_9 : decode cJ3_checkIndex_8e157 9 = .ok (.aload_n 2, 1) := by decide +kernel
theorem dJ3_checkIndex_8e157_10 : decode cJ3_checkIndex_8e157 10 = .ok (.iload_n 0, 1) := by decide +kernel
theorem dJ3_checkIndex_8e157_11 : decode cJ3_checkIndex_8e157 11 = .ok (.iload_n 1, 1) := by decide +kernel
theorem dJ3_checkIndex_8e157_12 : decode cJ3_checkIndex_8e157 12 = .ok (.invokestatic 95, 3) := by decide +kernel
theorem dJ3_checkIndex_8e157_15 : decode cJ3_checkIndex_8e157 15 = .ok (.athrow, 1) := by decide +kernel
theorem dJ3_checkIndex_8e157_16 : decode cJ3_checkIndex_8e157 16 = .ok (.iload_n 0, 1) := by decide +kernel
theorem dJ3_checkIndex_8e157_17 : decode cJ3_checkIndex_8e157 17 = .ok (.ireturn, 1) := by decide +kernel
theorem dL_town_0 : decode cL_town 0 = .ok (.aload_n 2, 1) := by decide +kernel
theorem dL_town_1 : decode cL_town 1 = .ok (.iconst 0, 1) := by decide +kernel
theorem dL_town_2 : decode cL_town 2 = .ok (.aload_n 0, 1) := by decide +kernel
theorem dL_town_3 : decode cL_town 3 = .ok (.iload_n 1, 1) := by decide +kernel
theorem dL_town_4 : decode cL_town 4 = .ok (.invokevirtual 7, 3) := by decide +kernel
theorem dL_town_7 : decode cL_town 7 = .ok (.i2l, 1) := by decide +kernel
theorem dL_town_8 : decode cL_town 8 = .ok (.lastore, 1) := by decide +kernel
theorem dL_town_9 : decode cL_town 9 = .ok (.goto 6, 3) := by decide +kernel
theorem dL_town_12 : decode cL_town 12 = .ok (.astore_n 3, 1) := by decide +kernel
theorem dL_town_13 : decode cL_town 13 = .ok (.iconst 1, 1) := by decide +kernel
theorem dL_town_14 : decode cL_town 14 = .ok (.ireturn, 1) := by decide +kernel
theorem dL_town_15 : decode cL_town 15 = .ok (.iconst 0, 1) := by decide +kernel
theorem dL_town_16 : decode cL_town 16 = .ok (.ireturn, 1) := by decide +kernel
theorem dL_count_0 : decode cL_count 0 = .ok (.aload_n 2, 1) := by decide +kernel
theorem dL_count_1 : decode cL_count 1 = .ok (.iconst 0, 1) := by decide +kernel
theorem dL_count_2 : decode cL_count 2 = .ok (.aload_n 0, 1) := by decide +kernel
theorem dL_count_3 : decode cL_count 3 = .ok (.iload_n 1, 1) := by decide +kernel
theorem dL_count_4 : decode cL_count 4 = .ok (.invokevirtual 15, 3) := by decide +kernel
theorem dL_count_7 : decode cL_count 7 = .ok (.i2l, 1) := by decide +kernel
theorem dL_count_8 : decode cL_count 8 = .ok (.lastore, 1) := by decide +kernel
theorem dL_count_9 : decode cL_count 9 = .ok (.goto 6, 3) := by decide +kernel
theorem dL_count_12 : decode cL_count 12 = .ok (.astore_n 3, 1) := by decide +kernel
theorem dL_count_13 : decode cL_count 13 = .ok (.iconst 1, 1) := by decide +kernel
theorem dL_count_14 : decode cL_count 14 = .ok (.ireturn, 1) := by decide +kernel
theorem dL_count_15 : decode cL_count 15 = .ok (.iconst 0, 1) := by decide +kernel
theorem dL_count_16 : decode cL_count 16 = .ok (.ireturn, 1) := by decide +kernel
theorem dL_price_0 : decode cL_price 0 = .ok (.aload_n 2, 1) := by decide +kernel
theorem dL_price_1 : decode cL_price 1 = .ok (.iconst 0, 1) := by decide +kernel
theorem dL_price_2 : decode cL_price 2 = .ok (.aload_n 0, 1) := by decide +kernel
theorem dL_price_3 : decode cL_price 3 = .ok (.iload_n 1, 1) := by decide +kernel
theorem dL_price_4 : decode cL_price 4 = .ok (.invokevirtual 20, 3) := by decide +kernel
theorem dL_price_7 : decode cL_price 7 = .ok (.i2l, 1) := by decide +kernel
theorem dL_price_8 : decode cL_price 8 = .ok (.lastore, 1) := by decide +kernel
theorem dL_price_9 : decode cL_price 9 = .ok (.goto 6, 3) := by decide +kernel
theorem dL_price_12 : decode cL_price 12 = .ok (.astore_n 3, 1) := by decide +kernel
theorem dL_price_13 : decode cL_price 13 = .ok (.iconst 1, 1) := by decide +kernel
theorem dL_price_14 : decode cL_price 14 = .ok (.ireturn, 1) := by decide +kernel
theorem dL_price_15 : decode cL_price 15 = .ok (.iconst 0, 1) := by decide +kernel
theorem dL_price_16 : decode cL_price 16 = .ok (.ireturn, 1) := by decide +kernel
theorem dL_meeting_0 : decode cL_meeting 0 = .ok (.aload_n 3, 1) := by decide +kernel
theorem dL_meeting_1 : decode cL_meeting 1 = .ok (.iconst 0, 1) := by decide +kernel
theorem dL_meeting_2 : decode cL_meeting 2 = .ok (.aload_n 0, 1) := by decide +kernel
theorem dL_meeting_3 : decode cL_meeting 3 = .ok (.iload_n 1, 1) := by decide +kernel
theorem dL_meeting_4 : decode cL_meeting 4 = .ok (.iload_n 2, 1) := by decide +kernel
theorem dL_meeting_5 : decode cL_meeting 5 = .ok (.invokevirtual 23, 3) := by decide +kernel
theorem dL_meeting_8 : decode cL_meeting 8 = .ok (.i2l, 1) := by decide +kernel
theorem dL_meeting_9 : decode cL_meeting 9 = .ok (.lastore, 1) := by decide +kernel
theorem dL_meeting_10 : decode cL_meeting 10 = .ok (.goto 7, 3) := by decide +kernel
theorem dL_meeting_13 : decode cL_meeting 13 = .ok (.astore 4, 2) := by decide +kernel
theorem dL_meeting_15 : decode cL_meeting 15 = .ok (.iconst 1, 1) := by decide +kernel
theorem dL_meeting_16 : decode cL_meeting 16 = .ok (.ireturn, 1) := by decide +kernel
theorem dL_meeting_17 : decode cL_meeting 17 = .ok (.iconst 0, 1) := by decide +kernel
theorem dL_meeting_18 : decode cL_meeting 18 = .ok (.ireturn, 1) := by decide +kernel
theorem dL_promise_0 : decode cL_promise 0 = .ok (.aload_n 3, 1) := by decide +kernel
theorem dL_promise_1 : decode cL_promise 1 = .ok (.iconst 0, 1) := by decide +kernel
theorem dL_promise_2 : decode cL_promise 2 = .ok (.aload_n 0, 1) := by decide +kernel
theorem dL_promise_3 : decode cL_promise 3 = .ok (.iload_n 1, 1) := by decide +kernel
theorem dL_promise_4 : decode cL_promise 4 = .ok (.iload_n 2, 1) := by decide +kernel
theorem dL_promise_5 : decode cL_promise 5 = .ok (.invokevirtual 27, 3) := by decide +kernel
theorem dL_promise_8 : decode cL_promise 8 = .ok (.i2l, 1) := by decide +kernel
theorem dL_promise_9 : decode cL_promise 9 = .ok (.lastore, 1) := by decide +kernel
theorem dL_promise_10 : decode cL_promise 10 = .ok (.goto 7, 3) := by decide +kernel
theorem dL_promise_13 : decode cL_promise 13 = .ok (.astore 4, 2) := by decide +kernel
theorem dL_promise_15 : decode cL_promise 15 = .ok (.iconst 1, 1) := by decide +kernel
theorem dL_promise_16 : decode cL_promise 16 = .ok (.ireturn, 1) := by decide +kernel
theorem dL_promise_17 : decode cL_promise 17 = .ok (.iconst 0, 1) := by decide +kernel
theorem dL_promise_18 : decode cL_promise 18 = .ok (.ireturn, 1) := by decide +kernel
theorem dL_say_0 : decode cL_say 0 = .ok (.aload 5, 2) := by decide +kernel
theorem dL_say_2 : decode cL_say 2 = .ok (.iconst 0, 1) := by decide +kernel
theorem dL_say_3 : decode cL_say 3 = .ok (.aload_n 0, 1) := by decide +kernel
theorem dL_say_4 : decode cL_say 4 = .ok (.iload_n 1, 1) := by decide +kernel
theorem dL_say_5 : decode cL_say 5 = .ok (.iload_n 2, 1) := by decide +kernel
theorem dL_say_6 : decode cL_say 6 = .ok (.iload_n 3, 1) := by decide +kernel
theorem dL_say_7 : decode cL_say 7 = .ok (.iload 4, 2) := by decide +kernel
theorem dL_say_9 : decode cL_say 9 = .ok (.invokevirtual 30, 3) := by decide +kernel
theorem dL_say_12 : decode cL_say 12 = .ok (.i2l, 1) := by decide +kernel
theorem dL_say_13 : decode cL_say 13 = .ok (.lastore, 1) := by decide +kernel
theorem dL_say_14 : decode cL_say 14 = .ok (.goto 7, 3) := by decide +kernel
theorem dL_say_17 : decode cL_say 17 = .ok (.astore 6, 2) := by decide +kernel
theorem dL_say_19 : decode cL_say 19 = .ok (.iconst 1, 1) := by decide +kernel
theorem dL_say_20 : decode cL_say 20 = .ok (.ireturn, 1) := by decide +kernel
theorem dL_say_21 : decode cL_say 21 = .ok (.iconst 0, 1) := by decide +kernel
theorem dL_say_22 : decode cL_say 22 = .ok (.ireturn, 1) := by decide +kernel
theorem dL_days_0 : decode cL_days 0 = .ok (.aload_n 2, 1) := by decide +kernel
theorem dL_days_1 : decode cL_days 1 = .ok (.iconst 0, 1) := by decide +kernel
theorem dL_days_2 : decode cL_days 2 = .ok (.aload_n 0, 1) := by decide +kernel
theorem dL_days_3 : decode cL_days 3 = .ok (.iload_n 1, 1) := by decide +kernel
theorem dL_days_4 : decode cL_days 4 = .ok (.invokevirtual 34, 3) := by decide +kernel
theorem dL_days_7 : decode cL_days 7 = .ok (.i2l, 1) := by decide +kernel
theorem dL_days_8 : decode cL_days 8 = .ok (.lastore, 1) := by decide +kernel
theorem dL_days_9 : decode cL_days 9 = .ok (.goto 6, 3) := by decide +kernel
theorem dL_days_12 : decode cL_days 12 = .ok (.astore_n 3, 1) := by decide +kernel
theorem dL_days_13 : decode cL_days 13 = .ok (.iconst 1, 1) := by decide +kernel
theorem dL_days_14 : decode cL_days 14 = .ok (.ireturn, 1) := by decide +kernel
theorem dL_days_15 : decode cL_days 15 = .ok (.iconst 0, 1) := by decide +kernel
theorem dL_days_16 : decode cL_days 16 = .ok (.ireturn, 1) := by decide +kernel
theorem dL_keep_0 : decode cL_keep 0 = .ok (.aload 5, 2) := by decide +kernel
theorem dL_keep_2 : decode cL_keep 2 = .ok (.iconst 0, 1) := by decide +kernel
theorem dL_keep_3 : decode cL_keep 3 = .ok (.aload_n 0, 1) := by decide +kernel
theorem dL_keep_4 : decode cL_keep 4 = .ok (.iload_n 1, 1) := by decide +kernel
theorem dL_keep_5 : decode cL_keep 5 = .ok (.iload_n 2, 1) := by decide +kernel
theorem dL_keep_6 : decode cL_keep 6 = .ok (.iload_n 3, 1) := by decide +kernel
theorem dL_keep_7 : decode cL_keep 7 = .ok (.iload 4, 2) := by decide +kernel
theorem dL_keep_9 : decode cL_keep 9 = .ok (.invokevirtual 37, 3) := by decide +kernel
theorem dL_keep_12 : decode cL_keep 12 = .ok (.i2l, 1) := by decide +kernel
theorem dL_keep_13 : decode cL_keep 13 = .ok (.lastore, 1) := by decide +kernel
theorem dL_keep_14 : decode cL_keep 14 = .ok (.goto 11, 3) := by decide +kernel
theorem dL_keep_17 : decode cL_keep 17 = .ok (.astore 6, 2) := by decide +kernel
theorem dL_keep_19 : decode cL_keep 19 = .ok (.iconst 1, 1) := by decide +kernel
theorem dL_keep_20 : decode cL_keep 20 = .ok (.ireturn, 1) := by decide +kernel
theorem dL_keep_21 : decode cL_keep 21 = .ok (.astore 6, 2) := by decide +kernel
theorem dL_keep_23 : decode cL_keep 23 = .ok (.iconst 2, 1) := by decide +kernel
theorem dL_keep_24 : decode cL_keep 24 = .ok (.ireturn, 1) := by decide +kernel
theorem dL_keep_25 : decode cL_keep 25 = .ok (.iconst 0, 1) := by decide +kernel
theorem dL_keep_26 : decode cL_keep 26 = .ok (.ireturn, 1) := by decide +kernel
theorem dL_kept_0 : decode cL_kept 0 = .ok (.aload_n 2, 1) := by decide +kernel
theorem dL_kept_1 : decode cL_kept 1 = .ok (.iconst 0, 1) := by decide +kernel
theorem dL_kept_2 : decode cL_kept 2 = .ok (.aload_n 0, 1) := by decide +kernel
theorem dL_kept_3 : decode cL_kept 3 = .ok (.iload_n 1, 1) := by decide +kernel
theorem dL_kept_4 : decode cL_kept 4 = .ok (.invokevirtual 40, 3) := by decide +kernel
theorem dL_kept_7 : decode cL_kept 7 = .ok (.i2l, 1) := by decide +kernel
theorem dL_kept_8 : decode cL_kept 8 = .ok (.lastore, 1) := by decide +kernel
theorem dL_kept_9 : decode cL_kept 9 = .ok (.goto 6, 3) := by decide +kernel
theorem dL_kept_12 : decode cL_kept 12 = .ok (.astore_n 3, 1) := by decide +kernel
theorem dL_kept_13 : decode cL_kept 13 = .ok (.iconst 1, 1) := by decide +kernel
theorem dL_kept_14 : decode cL_kept 14 = .ok (.ireturn, 1) := by decide +kernel
theorem dL_kept_15 : decode cL_kept 15 = .ok (.iconst 0, 1) := by decide +kernel
theorem dL_kept_16 : decode cL_kept 16 = .ok (.ireturn, 1) := by decide +kernel
theorem dL_silence_0 : decode cL_silence 0 = .ok (.aload_n 3, 1) := by decide +kernel
theorem dL_silence_1 : decode cL_silence 1 = .ok (.iconst 0, 1) := by decide +kernel
theorem dL_silence_2 : decode cL_silence 2 = .ok (.aload_n 0, 1) := by decide +kernel
theorem dL_silence_3 : decode cL_silence 3 = .ok (.iload_n 1, 1) := by decide +kernel
theorem dL_silence_4 : decode cL_silence 4 = .ok (.iload_n 2, 1) := by decide +kernel
theorem dL_silence_5 : decode cL_silence 5 = .ok (.invokevirtual 43, 3) := by decide +kernel
theorem dL_silence_8 : decode cL_silence 8 = .ok (.i2l, 1) := by decide +kernel
theorem dL_silence_9 : decode cL_silence 9 = .ok (.lastore, 1) := by decide +kernel
theorem dL_silence_10 : decode cL_silence 10 = .ok (.goto 11, 3) := by decide +kernel
theorem dL_silence_13 : decode cL_silence 13 = .ok (.astore 4, 2) := by decide +kernel
theorem dL_silence_15 : decode cL_silence 15 = .ok (.iconst 1, 1) := by decide +kernel
theorem dL_silence_16 : decode cL_silence 16 = .ok (.ireturn, 1) := by decide +kernel
theorem dL_silence_17 : decode cL_silence 17 = .ok (.astore 4, 2) := by decide +kernel
theorem dL_silence_19 : decode cL_silence 19 = .ok (.iconst 2, 1) := by decide +kernel
theorem dL_silence_20 : decode cL_silence 20 = .ok (.ireturn, 1) := by decide +kernel
theorem dL_silence_21 : decode cL_silence 21 = .ok (.iconst 0, 1) := by decide +kernel
theorem dL_silence_22 : decode cL_silence 22 = .ok (.ireturn, 1) := by decide +kernel
theorem dL_stands_0 : decode cL_stands 0 = .ok (.aload_n 3, 1) := by decide +kernel
theorem dL_stands_1 : decode cL_stands 1 = .ok (.iconst 0, 1) := by decide +kernel
theorem dL_stands_2 : decode cL_stands 2 = .ok (.aload_n 0, 1) := by decide +kernel
theorem dL_stands_3 : decode cL_stands 3 = .ok (.iload_n 1, 1) := by decide +kernel
theorem dL_stands_4 : decode cL_stands 4 = .ok (.iload_n 2, 1) := by decide +kernel
theorem dL_stands_5 : decode cL_stands 5 = .ok (.invokevirtual 46, 3) := by decide +kernel
theorem dL_stands_8 : decode cL_stands 8 = .ok (.i2l, 1) := by decide +kernel
theorem dL_stands_9 : decode cL_stands 9 = .ok (.lastore, 1) := by decide +kernel
theorem dL_stands_10 : decode cL_stands 10 = .ok (.goto 11, 3) := by decide +kernel
theorem dL_stands_13 : decode cL_stands 13 = .ok (.astore 4, 2) := by decide +kernel
theorem dL_stands_15 : decode cL_stands 15 = .ok (.iconst 1, 1) := by decide +kernel
theorem dL_stands_16 : decode cL_stands 16 = .ok (.ireturn, 1) := by decide +kernel
theorem dL_stands_17 : decode cL_stands 17 = .ok (.astore 4, 2) := by decide +kernel
theorem dL_stands_19 : decode cL_stands 19 = .ok (.iconst 2, 1) := by decide +kernel
theorem dL_stands_20 : decode cL_stands 20 = .ok (.ireturn, 1) := by decide +kernel
theorem dL_stands_21 : decode cL_stands 21 = .ok (.iconst 0, 1) := by decide +kernel
theorem dL_stands_22 : decode cL_stands 22 = .ok (.ireturn, 1) := by decide +kernel
theorem dL_pairs_0 : decode cL_pairs 0 = .ok (.aload_n 3, 1) := by decide +kernel
theorem dL_pairs_1 : decode cL_pairs 1 = .ok (.iconst 0, 1) := by decide +kernel
theorem dL_pairs_2 : decode cL_pairs 2 = .ok (.aload_n 0, 1) := by decide +kernel
theorem dL_pairs_3 : decode cL_pairs 3 = .ok (.iload_n 1, 1) := by decide +kernel
theorem dL_pairs_4 : decode cL_pairs 4 = .ok (.iload_n 2, 1) := by decide +kernel
theorem dL_pairs_5 : decode cL_pairs 5 = .ok (.invokevirtual 49, 3) := by decide +kernel
theorem dL_pairs_8 : decode cL_pairs 8 = .ok (.i2l, 1) := by decide +kernel
theorem dL_pairs_9 : decode cL_pairs 9 = .ok (.lastore, 1) := by decide +kernel
theorem dL_pairs_10 : decode cL_pairs 10 = .ok (.goto 11, 3) := by decide +kernel
theorem dL_pairs_13 : decode cL_pairs 13 = .ok (.astore 4, 2) := by decide +kernel
theorem dL_pairs_15 : decode cL_pairs 15 = .ok (.iconst 1, 1) := by decide +kernel
theorem dL_pairs_16 : decode cL_pairs 16 = .ok (.ireturn, 1) := by decide +kernel
theorem dL_pairs_17 : decode cL_pairs 17 = .ok (.astore 4, 2) := by decide +kernel
theorem dL_pairs_19 : decode cL_pairs 19 = .ok (.iconst 2, 1) := by decide +kernel
theorem dL_pairs_20 : decode cL_pairs 20 = .ok (.ireturn, 1) := by decide +kernel
theorem dL_pairs_21 : decode cL_pairs 21 = .ok (.iconst 0, 1) := by decide +kernel
theorem dL_pairs_22 : decode cL_pairs 22 = .ok (.ireturn, 1) := by decide +kernel
theorem dL_tale_0 : decode cL_tale 0 = .ok (.aload 5, 2) := by decide +kernel
theorem dL_tale_2 : decode cL_tale 2 = .ok (.iconst 0, 1) := by decide +kernel
theorem dL_tale_3 : decode cL_tale 3 = .ok (.aload_n 0, 1) := by decide +kernel
theorem dL_tale_4 : decode cL_tale 4 = .ok (.iload_n 1, 1) := by decide +kernel
theorem dL_tale_5 : decode cL_tale 5 = .ok (.iload_n 2, 1) := by decide +kernel
theorem dL_tale_6 : decode cL_tale 6 = .ok (.iload_n 3, 1) := by decide +kernel
theorem dL_tale_7 : decode cL_tale 7 = .ok (.iload 4, 2) := by decide +kernel
theorem dL_tale_9 : decode cL_tale 9 = .ok (.invokevirtual 52, 3) := by decide +kernel
theorem dL_tale_12 : decode cL_tale 12 = .ok (.i2l, 1) := by decide +kernel
theorem dL_tale_13 : decode cL_tale 13 = .ok (.lastore, 1) := by decide +kernel
theorem dL_tale_14 : decode cL_tale 14 = .ok (.goto 7, 3) := by decide +kernel
theorem dL_tale_17 : decode cL_tale 17 = .ok (.astore 6, 2) := by decide +kernel
theorem dL_tale_19 : decode cL_tale 19 = .ok (.iconst 1, 1) := by decide +kernel
theorem dL_tale_20 : decode cL_tale 20 = .ok (.ireturn, 1) := by decide +kernel
theorem dL_tale_21 : decode cL_tale 21 = .ok (.iconst 0, 1) := by decide +kernel
theorem dL_tale_22 : decode cL_tale 22 = .ok (.ireturn, 1) := by decide +kernel
theorem dL_lacks_0 : decode cL_lacks 0 = .ok (.aload 5, 2) := by decide +kernel
theorem dL_lacks_2 : decode cL_lacks 2 = .ok (.iconst 0, 1) := by decide +kernel
theorem dL_lacks_3 : decode cL_lacks 3 = .ok (.aload_n 0, 1) := by decide +kernel
theorem dL_lacks_4 : decode cL_lacks 4 = .ok (.iload_n 1, 1) := by decide +kernel
theorem dL_lacks_5 : decode cL_lacks 5 = .ok (.iload_n 2, 1) := by decide +kernel
theorem dL_lacks_6 : decode cL_lacks 6 = .ok (.iload_n 3, 1) := by decide +kernel
theorem dL_lacks_7 : decode cL_lacks 7 = .ok (.iload 4, 2) := by decide +kernel
theorem dL_lacks_9 : decode cL_lacks 9 = .ok (.invokevirtual 55, 3) := by decide +kernel
theorem dL_lacks_12 : decode cL_lacks 12 = .ok (.i2l, 1) := by decide +kernel
theorem dL_lacks_13 : decode cL_lacks 13 = .ok (.lastore, 1) := by decide +kernel
theorem dL_lacks_14 : decode cL_lacks 14 = .ok (.goto 7, 3) := by decide +kernel
theorem dL_lacks_17 : decode cL_lacks 17 = .ok (.astore 6, 2) := by decide +kernel
theorem dL_lacks_19 : decode cL_lacks 19 = .ok (.iconst 1, 1) := by decide +kernel
theorem dL_lacks_20 : decode cL_lacks 20 = .ok (.ireturn, 1) := by decide +kernel
theorem dL_lacks_21 : decode cL_lacks 21 = .ok (.iconst 0, 1) := by decide +kernel
theorem dL_lacks_22 : decode cL_lacks 22 = .ok (.ireturn, 1) := by decide +kernel
theorem dL_law_0 : decode cL_law 0 = .ok (.new 8, 3) := by decide +kernel
theorem dL_law_3 : decode cL_law 3 = .ok (.dup, 1) := by decide +kernel
theorem dL_law_4 : decode cL_law 4 = .ok (.invokespecial 58, 3) := by decide +kernel
theorem dL_law_7 : decode cL_law 7 = .ok (.astore_n 1, 1) := by decide +kernel
theorem dL_law_8 : decode cL_law 8 = .ok (.new 59, 3) := by decide +kernel
theorem dL_law_11 : decode cL_law 11 = .ok (.dup, 1) := by decide +kernel
theorem dL_law_12 : decode cL_law 12 = .ok (.invokespecial 61, 3) := by decide +kernel
theorem dL_law_15 : decode cL_law 15 = .ok (.astore_n 2, 1) := by decide +kernel
theorem dL_law_16 : decode cL_law 16 = .ok (.iconst 1, 1) := by decide +kernel
theorem dL_law_17 : decode cL_law 17 = .ok (.newarray .long, 2) := by decide +kernel
theorem dL_law_19 : decode cL_law 19 = .ok (.astore_n 3, 1) := by decide +kernel
theorem dL_law_20 : decode cL_law 20 = .ok (.iconst 0, 1) := by decide +kernel
theorem dL_law_21 : decode cL_law 21 = .ok (.istore 4, 2) := by decide +kernel
theorem dL_law_23 : decode cL_law 23 = .ok (.iload 4, 2) := by decide +kernel
theorem dL_law_25 : decode cL_law 25 = .ok (.aload_n 0, 1) := by decide +kernel
theorem dL_law_26 : decode cL_law 26 = .ok (.arraylength, 1) := by decide +kernel
theorem dL_law_27 : decode cL_law 27 = .ok (.bipush 6, 2) := by decide +kernel
theorem dL_law_29 : decode cL_law 29 = .ok (.isub, 1) := by decide +kernel
theorem dL_law_30 : decode cL_law 30 = .ok (.if_icmp .gt 1219, 3) := by decide +kernel
theorem dL_law_33 : decode cL_law 33 = .ok (.aload_n 0, 1) := by decide +kernel
theorem dL_law_34 : decode cL_law 34 = .ok (.iload 4, 2) := by decide +kernel
theorem dL_law_36 : decode cL_law 36 = .ok (.iaload, 1) := by decide +kernel
theorem dL_law_37 : decode cL_law 37 = .ok (.bipush 31, 2) := by decide +kernel
theorem dL_law_39 : decode cL_law 39 = .ok (.iand, 1) := by decide +kernel
theorem dL_law_40 : decode cL_law 40 = .ok (.tableswitch 1203 0 18 #[92, 165, 221, 234, 290, 346, 414, 482, 574, 587, 643, 735, 791, 859, 927, 995, 1087, 1179, 1190], 92) := by decide +kernel
theorem dL_law_132 : decode cL_law 132 = .ok (.aload_n 1, 1) := by decide +kernel
theorem dL_law_133 : decode cL_law 133 = .ok (.aload_n 0, 1) := by decide +kernel
theorem dL_law_134 : decode cL_law 134 = .ok (.iload 4, 2) := by decide +kernel
theorem dL_law_136 : decode cL_law 136 = .ok (.iconst 1, 1) := by decide +kernel
theorem dL_law_137 : decode cL_law 137 = .ok (.iadd, 1) := by decide +kernel
theorem dL_law_138 : decode cL_law 138 = .ok (.iaload, 1) := by decide +kernel
theorem dL_law_139 : decode cL_law 139 = .ok (.aload_n 0, 1) := by decide +kernel
theorem dL_law_140 : decode cL_law 140 = .ok (.iload 4, 2) := by decide +kernel
theorem dL_law_142 : decode cL_law 142 = .ok (.iconst 2, 1) := by decide +kernel
theorem dL_law_143 : decode cL_law 143 = .ok (.iadd, 1) := by decide +kernel
theorem dL_law_144 : decode cL_law 144 = .ok (.iaload, 1) := by decide +kernel
theorem dL_law_145 : decode cL_law 145 = .ok (.aload_n 0, 1) := by decide +kernel
theorem dL_law_146 : decode cL_law 146 = .ok (.iload 4, 2) := by decide +kernel
theorem dL_law_148 : decode cL_law 148 = .ok (.iconst 3, 1) := by decide +kernel
theorem dL_law_149 : decode cL_law 149 = .ok (.iadd, 1) := by decide +kernel
theorem dL_law_150 : decode cL_law 150 = .ok (.iaload, 1) := by decide +kernel
theorem dL_law_151 : decode cL_law 151 = .ok (.aload_n 0, 1) := by decide +kernel
theorem dL_law_152 : decode cL_law 152 = .ok (.iload 4, 2) := by decide +kernel
theorem dL_law_154 : decode cL_law 154 = .ok (.iconst 4, 1) := by decide +kernel
theorem dL_law_155 : decode cL_law 155 = .ok (.iadd, 1) := by decide +kernel
theorem dL_law_156 : decode cL_law 156 = .ok (.iaload, 1) := by decide +kernel
theorem dL_law_157 : decode cL_law 157 = .ok (.aload_n 0, 1) := by decide +kernel
theorem dL_law_158 : decode cL_law 158 = .ok (.iload 4, 2) := by decide +kernel
theorem dL_law_160 : decode cL_law 160 = .ok (.iconst 5, 1) := by decide +kernel
theorem dL_law_161 : decode cL_law 161 = .ok (.iadd, 1) := by decide +kernel
theorem dL_law_162 : decode cL_law 162 = .ok (.iaload, 1) := by decide +kernel
theorem dL_law_163 : decode cL_law 163 = .ok (.invokevirtual 62, 3) := by decide +kernel
theorem dL_law_166 : decode cL_law 166 = .ok (.aload_n 2, 1) := by decide +kernel
theorem dL_law_167 : decode cL_law 167 = .ok (.aload_n 0, 1) := by decide +kernel
theorem dL_law_168 : decode cL_law 168 = .ok (.iload 4, 2) := by decide +kernel
theorem dL_law_170 : decode cL_law 170 = .ok (.iconst 1, 1) := by decide +kernel
theorem dL_law_171 : decode cL_law 171 = .ok (.iadd, 1) := by decide +kernel
theorem dL_law_172 : decode cL_law 172 = .ok (.iaload, 1) := by decide +kernel
theorem dL_law_173 : decode cL_law 173 = .ok (.aload_n 0, 1) := by decide +kernel
theorem dL_law_174 : decode cL_law 174 = .ok (.iload 4, 2) := by decide +kernel
theorem dL_law_176 : decode cL_law 176 = .ok (.iconst 2, 1) := by decide +kernel
theorem dL_law_177 : decode cL_law 177 = .ok (.iadd, 1) := by decide +kernel
theorem dL_law_178 : decode cL_law 178 = .ok (.iaload, 1) := by decide +kernel
theorem dL_law_179 : decode cL_law 179 = .ok (.aload_n 0, 1) := by decide +kernel
theorem dL_law_180 : decode cL_law 180 = .ok (.iload 4, 2) := by decide +kernel
theorem dL_law_182 : decode cL_law 182 = .ok (.iconst 3, 1) := by decide +kernel
theorem dL_law_183 : decode cL_law 183 = .ok (.iadd, 1) := by decide +kernel
theorem dL_law_184 : decode cL_law 184 = .ok (.iaload, 1) := by decide +kernel
theorem dL_law_185 : decode cL_law 185 = .ok (.aload_n 0, 1) := by decide +kernel
theorem dL_law_186 : decode cL_law 186 = .ok (.iload 4, 2) := by decide +kernel
theorem dL_law_188 : decode cL_law 188 = .ok (.iconst 4, 1) := by decide +kernel
theorem dL_law_189 : decode cL_law 189 = .ok (.iadd, 1) := by decide +kernel
theorem dL_law_190 : decode cL_law 190 = .ok (.iaload, 1) := by decide +kernel
theorem dL_law_191 : decode cL_law 191 = .ok (.aload_n 0, 1) := by decide +kernel
theorem dL_law_192 : decode cL_law 192 = .ok (.iload 4, 2) := by decide +kernel
theorem dL_law_194 : decode cL_law 194 = .ok (.iconst 5, 1) := by decide +kernel
theorem dL_law_195 : decode cL_law 195 = .ok (.iadd, 1) := by decide +kernel
theorem dL_law_196 : decode cL_law 196 = .ok (.iaload, 1) := by decide +kernel
theorem dL_law_197 : decode cL_law 197 = .ok (.invokevirtual 66, 3) := by decide +kernel
theorem dL_law_200 : decode cL_law 200 = .ok (.if_icmp .eq 1043, 3) := by decide +kernel
theorem dL_law_203 : decode cL_law 203 = .ok (.iconst 0, 1) := by decide +kernel
theorem dL_law_204 : decode cL_law 204 = .ok (.ireturn, 1) := by decide +kernel
theorem dL_law_205 : decode cL_law 205 = .ok (.aload_n 1, 1) := by decide +kernel
theorem dL_law_206 : decode cL_law 206 = .ok (.aload_n 0, 1) := by decide +kernel
theorem dL_law_207 : decode cL_law 207 = .ok (.iload 4, 2) := by decide +kernel
theorem dL_law_209 : decode cL_law 209 = .ok (.iconst 1, 1) := by decide +kernel
theorem dL_law_210 : decode cL_law 210 = .ok (.iadd, 1) := by decide +kernel
theorem dL_law_211 : decode cL_law 211 = .ok (.iaload, 1) := by decide +kernel
theorem dL_law_212 : decode cL_law 212 = .ok (.aload_n 3, 1) := by decide +kernel
theorem dL_law_213 : decode cL_law 213 = .ok (.invokestatic 67, 3) := by decide +kernel
theorem dL_law_216 : decode cL_law 216 = .ok (.istore 5, 2) := by decide +kernel
theorem dL_law_218 : decode cL_law 218 = .ok (.aload_n 2, 1) := by decide +kernel
theorem dL_law_219 : decode cL_law 219 = .ok (.aload_n 0, 1) := by decide +kernel
theorem dL_law_220 : decode cL_law 220 = .ok (.iload 4, 2) := by decide +kernel
theorem dL_law_222 : decode cL_law 222 = .ok (.iconst 1, 1) := by decide +kernel
theorem dL_law_223 : decode cL_law 223 = .ok (.iadd, 1) := by decide +kernel
theorem dL_law_224 : decode cL_law 224 = .ok (.iaload, 1) := by decide +kernel
theorem dL_law_225 : decode cL_law 225 = .ok (.invokevirtual 72, 3) := by decide +kernel
theorem dL_law_228 : decode cL_law 228 = .ok (.istore 6, 2) := by decide +kernel
theorem dL_law_230 : decode cL_law 230 = .ok (.aload_n 2, 1) := by decide +kernel
theorem dL_law_231 : decode cL_law 231 = .ok (.invokevirtual 73, 3) := by decide +kernel
theorem dL_law_234 : decode cL_law 234 = .ok (.iload 5, 2) := by decide +kernel
theorem dL_law_236 : decode cL_law 236 = .ok (.if_icmp .eq 5, 3) := by decide +kernel
theorem dL_law_239 : decode cL_law 239 = .ok (.iconst 0, 1) := by decide +kernel
theorem dL_law_240 : decode cL_law 240 = .ok (.ireturn, 1) := by decide +kernel
theorem dL_law_241 : decode cL_law 241 = .ok (.iload 5, 2) := by decide +kernel
theorem dL_law_243 : decode cL_law 243 = .ok (.ifCond .ne 15, 3) := by decide +kernel
theorem dL_law_246 : decode cL_law 246 = .ok (.aload_n 3, 1) := by decide +kernel
theorem dL_law_247 : decode cL_law 247 = .ok (.iconst 0, 1) := by decide +kernel
theorem dL_law_248 : decode cL_law 248 = .ok (.laload, 1) := by decide +kernel
theorem dL_law_249 : decode cL_law 249 = .ok (.iload 6, 2) := by decide +kernel
theorem dL_law_251 : decode cL_law 251 = .ok (.i2l, 1) := by decide +kernel
theorem dL_law_252 : decode cL_law 252 = .ok (.lcmp, 1) := by decide +kernel
theorem dL_law_253 : decode cL_law 253 = .ok (.ifCond .eq 5, 3) := by decide +kernel
theorem dL_law_256 : decode cL_law 256 = .ok (.iconst 0, 1) := by decide +kernel
theorem dL_law_257 : decode cL_law 257 = .ok (.ireturn, 1) := by decide +kernel
theorem dL_law_258 : decode cL_law 258 = .ok (.goto 985, 3) := by decide +kernel
theorem dL_law_261 : decode cL_law 261 = .ok (.aload_n 1, 1) := by decide +kernel
theorem dL_law_262 : decode cL_law 262 = .ok (.invokevirtual 77, 3) := by decide +kernel
theorem dL_law_265 : decode cL_law 265 = .ok (.aload_n 2, 1) := by decide +kernel
theorem dL_law_266 : decode cL_law 266 = .ok (.invokevirtual 80, 3) := by decide +kernel
theorem dL_law_269 : decode cL_law 269 = .ok (.if_icmp .eq 974, 3) := by decide +kernel
theorem dL_law_272 : decode cL_law 272 = .ok (.iconst 0, 1) := by decide +kernel
theorem dL_law_273 : decode cL_law 273 = .ok (.ireturn, 1) := by decide +kernel
theorem dL_law_274 : decode cL_law 274 = .ok (.aload_n 1, 1) := by decide +kernel
theorem dL_law_275 : decode cL_law 275 = .ok (.aload_n 0, 1) := by decide +kernel
theorem dL_law_276 : decode cL_law 276 = .ok (.iload 4, 2) := by decide +kernel
theorem dL_law_278 : decode cL_law 278 = .ok (.iconst 1, 1) := by decide +kernel
theorem dL_law_279 : decode cL_law 279 = .ok (.iadd, 1) := by decide +kernel
theorem dL_law_280 : decode cL_law 280 = .ok (.iaload, 1) := by decide +kernel
theorem dL_law_281 : decode cL_law 281 = .ok (.aload_n 3, 1) := by decide +kernel
theorem dL_law_282 : decode cL_law 282 = .ok (.invokestatic 81, 3) := by decide +kernel
theorem dL_law_285 : decode cL_law 285 = .ok (.istore 5, 2) := by decide +kernel
theorem dL_law_287 : decode cL_law 287 = .ok (.aload_n 2, 1) := by decide +kernel
theorem dL_law_288 : decode cL_law 288 = .ok (.aload_n 0, 1) := by decide +kernel
theorem dL_law_289 : decode cL_law 289 = .ok (.iload 4, 2) := by decide +kernel
theorem dL_law_291 : decode cL_law 291 = .ok (.iconst 1, 1) := by decide +kernel
theorem dL_law_292 : decode cL_law 292 = .ok (.iadd, 1) := by decide +kernel
theorem dL_law_293 : decode cL_law 293 = .ok (.iaload, 1) := by decide +kernel
theorem dL_law_294 : decode cL_law 294 = .ok (.invokevirtual 83, 3) := by decide +kernel
theorem dL_law_297 : decode cL_law 297 = .ok (.istore 6, 2) := by decide +kernel
theorem dL_law_299 : decode cL_law 299 = .ok (.aload_n 2, 1) := by decide +kernel
theorem dL_law_300 : decode cL_law 300 = .ok (.invokevirtual 73, 3) := by decide +kernel
theorem dL_law_303 : decode cL_law 303 = .ok (.iload 5, 2) := by decide +kernel
theorem dL_law_305 : decode cL_law 305 = .ok (.if_icmp .eq 5, 3) := by decide +kernel
theorem dL_law_308 : decode cL_law 308 = .ok (.iconst 0, 1) := by decide +kernel
theorem dL_law_309 : decode cL_law 309 = .ok (.ireturn, 1) := by decide +kernel
theorem dL_law_310 : decode cL_law 310 = .ok (.iload 5, 2) := by decide +kernel
theorem dL_law_312 : decode cL_law 312 = .ok (.ifCond .ne 15, 3) := by decide +kernel
theorem dL_law_315 : decode cL_law 315 = .ok (.aload_n 3, 1) := by decide +kernel
theorem dL_law_316 : decode cL_law 316 = .ok (.iconst 0, 1) := by decide +kernel
theorem dL_law_317 : decode cL_law 317 = .ok (.laload, 1) := by decide +kernel
theorem dL_law_318 : decode cL_law 318 = .ok (.iload 6, 2) := by decide +kernel
theorem dL_law_320 : decode cL_law 320 = .ok (.i2l, 1) := by decide +kernel
theorem dL_law_321 : decode cL_law 321 = .ok (.lcmp, 1) := by decide +kernel
theorem dL_law_322 : decode cL_law 322 = .ok (.ifCond .eq 5, 3) := by decide +kernel
theorem dL_law_325 : decode cL_law 325 = .ok (.iconst 0, 1) := by decide +kernel
theorem dL_law_326 : decode cL_law 326 = .ok (.ireturn, 1) := by decide +kernel
theorem dL_law_327 : decode cL_law 327 = .ok (.goto 916, 3) := by decide +kernel
theorem dL_law_330 : decode cL_law 330 = .ok (.aload_n 1, 1) := by decide +kernel
theorem dL_law_331 : decode cL_law 331 = .ok (.aload_n 0, 1) := by decide +kernel
theorem dL_law_332 : decode cL_law 332 = .ok (.iload 4, 2) := by decide +kernel
theorem dL_law_334 : decode cL_law 334 = .ok (.iconst 1, 1) := by decide +kernel
theorem dL_law_335 : decode cL_law 335 = .ok (.iadd, 1) := by decide +kernel
theorem dL_law_336 : decode cL_law 336 = .ok (.iaload, 1) := by decide +kernel
theorem dL_law_337 : decode cL_law 337 = .ok (.aload_n 3, 1) := by decide +kernel
theorem dL_law_338 : decode cL_law 338 = .ok (.invokestatic 84, 3) := by decide +kernel
theorem dL_law_341 : decode cL_law 341 = .ok (.istore 5, 2) := by decide +kernel
theorem dL_law_343 : decode cL_law 343 = .ok (.aload_n 2, 1) := by decide +kernel
theorem dL_law_344 : decode cL_law 344 = .ok (.aload_n 0, 1) := by decide +kernel
theorem dL_law_345 : decode cL_law 345 = .ok (.iload 4, 2) := by decide +kernel
theorem dL_law_347 : decode cL_law 347 = .ok (.iconst 1, 1) := by decide +kernel
theorem dL_law_348 : decode cL_law 348 = .ok (.iadd, 1) := by decide +kernel
theorem dL_law_349 : decode cL_law 349 = .ok (.iaload, 1) := by decide +kernel
theorem dL_law_350 : decode cL_law 350 = .ok (.invokevirtual 86, 3) := by decide +kernel
theorem dL_law_353 : decode cL_law 353 = .ok (.istore 6, 2) := by decide +kernel
theorem dL_law_355 : decode cL_law 355 = .ok (.aload_n 2, 1) := by decide +kernel
theorem dL_law_356 : decode cL_law 356 = .ok (.invokevirtual 73, 3) := by decide +kernel
theorem dL_law_359 : decode cL_law 359 = .ok (.iload 5, 2) := by decide +kernel
theorem dL_law_361 : decode cL_law 361 = .ok (.if_icmp .eq 5, 3) := by decide +kernel
theorem dL_law_364 : decode cL_law 364 = .ok (.iconst 0, 1) := by decide +kernel
theorem dL_law_365 : decode cL_law 365 = .ok (.ireturn, 1) := by decide +kernel
theorem dL_law_366 : decode cL_law 366 = .ok (.iload 5, 2) := by decide +kernel
theorem dL_law_368 : decode cL_law 368 = .ok (.ifCond .ne 15, 3) := by decide +kernel
theorem dL_law_371 : decode cL_law 371 = .ok (.aload_n 3, 1) := by decide +kernel
theorem dL_law_372 : decode cL_law 372 = .ok (.iconst 0, 1) := by decide +kernel
theorem dL_law_373 : decode cL_law 373 = .ok (.laload, 1) := by decide +kernel
theorem dL_law_374 : decode cL_law 374 = .ok (.iload 6, 2) := by decide +kernel
theorem dL_law_376 : decode cL_law 376 = .ok (.i2l, 1) := by decide +kernel
theorem dL_law_377 : decode cL_law 377 = .ok (.lcmp, 1) := by decide +kernel
theorem dL_law_378 : decode cL_law 378 = .ok (.ifCond .eq 5, 3) := by decide +kernel
theorem dL_law_381 : decode cL_law 381 = .ok (.iconst 0, 1) := by decide +kernel
theorem dL_law_382 : decode cL_law 382 = .ok (.ireturn, 1) := by decide +kernel
theorem dL_law_383 : decode cL_law 383 = .ok (.goto 860, 3) := by decide +kernel
theorem dL_law_386 : decode cL_law 386 = .ok (.aload_n 1, 1) := by decide +kernel
theorem dL_law_387 : decode cL_law 387 = .ok (.aload_n 0, 1) := by decide +kernel
theorem dL_law_388 : decode cL_law 388 = .ok (.iload 4, 2) := by decide +kernel
theorem dL_law_390 : decode cL_law 390 = .ok (.iconst 1, 1) := by decide +kernel
theorem dL_law_391 : decode cL_law 391 = .ok (.iadd, 1) := by decide +kernel
theorem dL_law_392 : decode cL_law 392 = .ok (.iaload, 1) := by decide +kernel
theorem dL_law_393 : decode cL_law 393 = .ok (.aload_n 0, 1) := by decide +kernel
theorem dL_law_394 : decode cL_law 394 = .ok (.iload 4, 2) := by decide +kernel
theorem dL_law_396 : decode cL_law 396 = .ok (.iconst 2, 1) := by decide +kernel
theorem dL_law_397 : decode cL_law 397 = .ok (.iadd, 1) := by decide +kernel
theorem dL_law_398 : decode cL_law 398 = .ok (.iaload, 1) := by decide +kernel
theorem dL_law_399 : decode cL_law 399 = .ok (.aload_n 3, 1) := by decide +kernel
theorem dL_law_400 : decode cL_law 400 = .ok (.invokestatic 87, 3) := by decide +kernel
theorem dL_law_403 : decode cL_law 403 = .ok (.istore 5, 2) := by decide +kernel
theorem dL_law_405 : decode cL_law 405 = .ok (.aload_n 2, 1) := by decide +kernel
theorem dL_law_406 : decode cL_law 406 = .ok (.aload_n 0, 1) := by decide +kernel
theorem dL_law_407 : decode cL_law 407 = .ok (.iload 4, 2) := by decide +kernel
theorem dL_law_409 : decode cL_law 409 = .ok (.iconst 1, 1) := by decide +kernel
theorem dL_law_410 : decode cL_law 410 = .ok (.iadd, 1) := by decide +kernel
theorem dL_law_411 : decode cL_law 411 = .ok (.iaload, 1) := by decide +kernel
theorem dL_law_412 : decode cL_law 412 = .ok (.aload_n 0, 1) := by decide +kernel
theorem dL_law_413 : decode cL_law 413 = .ok (.iload 4, 2) := by decide +kernel
theorem dL_law_415 : decode cL_law 415 = .ok (.iconst 2, 1) := by decide +kernel
theorem dL_law_416 : decode cL_law 416 = .ok (.iadd, 1) := by decide +kernel
theorem dL_law_417 : decode cL_law 417 = .ok (.iaload, 1) := by decide +kernel
theorem dL_law_418 : decode cL_law 418 = .ok (.invokevirtual 90, 3) := by decide +kernel
theorem dL_law_421 : decode cL_law 421 = .ok (.istore 6, 2) := by decide +kernel
theorem dL_law_423 : decode cL_law 423 = .ok (.aload_n 2, 1) := by decide +kernel
theorem dL_law_424 : decode cL_law 424 = .ok (.invokevirtual 73, 3) := by decide +kernel
theorem dL_law_427 : decode cL_law 427 = .ok (.iload 5, 2) := by decide +kernel
theorem dL_law_429 : decode cL_law 429 = .ok (.if_icmp .eq 5, 3) := by decide +kernel
theorem dL_law_432 : decode cL_law 432 = .ok (.iconst 0, 1) := by decide +kernel
theorem dL_law_433 : decode cL_law 433 = .ok (.ireturn, 1) := by decide +kernel
theorem dL_law_434 : decode cL_law 434 = .ok (.iload 5, 2) := by decide +kernel
theorem dL_law_436 : decode cL_law 436 = .ok (.ifCond .ne 15, 3) := by decide +kernel
theorem dL_law_439 : decode cL_law 439 = .ok (.aload_n 3, 1) := by decide +kernel
theorem dL_law_440 : decode cL_law 440 = .ok (.iconst 0, 1) := by decide +kernel
theorem dL_law_441 : decode cL_law 441 = .ok (.laload, 1) := by decide +kernel
theorem dL_law_442 : decode cL_law 442 = .ok (.iload 6, 2) := by decide +kernel
theorem dL_law_444 : decode cL_law 444 = .ok (.i2l, 1) := by decide +kernel
theorem dL_law_445 : decode cL_law 445 = .ok (.lcmp, 1) := by decide +kernel
theorem dL_law_446 : decode cL_law 446 = .ok (.ifCond .eq 5, 3) := by decide +kernel
theorem dL_law_449 : decode cL_law 449 = .ok (.iconst 0, 1) := by decide +kernel
theorem dL_law_450 : decode cL_law 450 = .ok (.ireturn, 1) := by decide +kernel
theorem dL_law_451 : decode cL_law 451 = .ok (.goto 792, 3) := by decide +kernel
theorem dL_law_454 : decode cL_law 454 = .ok (.aload_n 1, 1) := by decide +kernel
theorem dL_law_455 : decode cL_law 455 = .ok (.aload_n 0, 1) := by decide +kernel
theorem dL_law_456 : decode cL_law 456 = .ok (.iload 4, 2) := by decide +kernel
theorem dL_law_458 : decode cL_law 458 = .ok (.iconst 1, 1) := by decide +kernel
theorem dL_law_459 : decode cL_law 459 = .ok (.iadd, 1) := by decide +kernel
theorem dL_law_460 : decode cL_law 460 = .ok (.iaload, 1) := by decide +kernel
theorem dL_law_461 : decode cL_law 461 = .ok (.aload_n 0, 1) := by decide +kernel
theorem dL_law_462 : decode cL_law 462 = .ok (.iload 4, 2) := by decide +kernel
theorem dL_law_464 : decode cL_law 464 = .ok (.iconst 2, 1) := by decide +kernel
theorem dL_law_465 : decode cL_law 465 = .ok (.iadd, 1) := by decide +kernel
theorem dL_law_466 : decode cL_law 466 = .ok (.iaload, 1) := by decide +kernel
theorem dL_law_467 : decode cL_law 467 = .ok (.aload_n 3, 1) := by decide +kernel
theorem dL_law_468 : decode cL_law 468 = .ok (.invokestatic 91, 3) := by decide +kernel
theorem dL_law_471 : decode cL_law 471 = .ok (.istore 5, 2) := by decide +kernel
theorem dL_law_473 : decode cL_law 473 = .ok (.aload_n 2, 1) := by decide +kernel
theorem dL_law_474 : decode cL_law 474 = .ok (.aload_n 0, 1) := by decide +kernel
theorem dL_law_475 : decode cL_law 475 = .ok (.iload 4, 2) := by decide +kernel
theorem dL_law_477 : decode cL_law 477 = .ok (.iconst 1, 1) := by decide +kernel
theorem dL_law_478 : decode cL_law 478 = .ok (.iadd, 1) := by decide +kernel
theorem dL_law_479 : decode cL_law 479 = .ok (.iaload, 1) := by decide +kernel
theorem dL_law_480 : decode cL_law 480 = .ok (.aload_n 0, 1) := by decide +kernel
theorem dL_law_481 : decode cL_law 481 = .ok (.iload 4, 2) := by decide +kernel
theorem dL_law_483 : decode cL_law 483 = .ok (.iconst 2, 1) := by decide +kernel
theorem dL_law_484 : decode cL_law 484 = .ok (.iadd, 1) := by decide +kernel
theorem dL_law_485 : decode cL_law 485 = .ok (.iaload, 1) := by decide +kernel
theorem dL_law_486 : decode cL_law 486 = .ok (.invokevirtual 93, 3) := by decide +kernel
theorem dL_law_489 : decode cL_law 489 = .ok (.istore 6, 2) := by decide +kernel
theorem dL_law_491 : decode cL_law 491 = .ok (.aload_n 2, 1) := by decide +kernel
theorem dL_law_492 : decode cL_law 492 = .ok (.invokevirtual 73, 3) := by decide +kernel
theorem dL_law_495 : decode cL_law 495 = .ok (.iload 5, 2) := by decide +kernel
theorem dL_law_497 : decode cL_law 497 = .ok (.if_icmp .eq 5, 3) := by decide +kernel
theorem dL_law_500 : decode cL_law 500 = .ok (.iconst 0, 1) := by decide +kernel
theorem dL_law_501 : decode cL_law 501 = .ok (.ireturn, 1) := by decide +kernel
theorem dL_law_502 : decode cL_law 502 = .ok (.iload 5, 2) := by decide +kernel
theorem dL_law_504 : decode cL_law 504 = .ok (.ifCond .ne 15, 3) := by decide +kernel
theorem dL_law_507 : decode cL_law 507 = .ok (.aload_n 3, 1) := by decide +kernel
theorem dL_law_508 : decode cL_law 508 = .ok (.iconst 0, 1) := by decide +kernel
theorem dL_law_509 : decode cL_law 509 = .ok (.laload, 1) := by decide +kernel
theorem dL_law_510 : decode cL_law 510 = .ok (.iload 6, 2) := by decide +kernel
theorem dL_law_512 : decode cL_law 512 = .ok (.i2l, 1) := by decide +kernel
theorem dL_law_513 : decode cL_law 513 = .ok (.lcmp, 1) := by decide +kernel
theorem dL_law_514 : decode cL_law 514 = .ok (.ifCond .eq 5, 3) := by decide +kernel
theorem dL_law_517 : decode cL_law 517 = .ok (.iconst 0, 1) := by decide +kernel
theorem dL_law_518 : decode cL_law 518 = .ok (.ireturn, 1) := by decide +kernel
theorem dL_law_519 : decode cL_law 519 = .ok (.goto 724, 3) := by decide +kernel
theorem dL_law_522 : decode cL_law 522 = .ok (.aload_n 1, 1) := by decide +kernel
theorem dL_law_523 : decode cL_law 523 = .ok (.aload_n 0, 1) := by decide +kernel
theorem dL_law_524 : decode cL_law 524 = .ok (.iload 4, 2) := by decide +kernel
theorem dL_law_526 : decode cL_law 526 = .ok (.iconst 1, 1) := by decide +kernel
theorem dL_law_527 : decode cL_law 527 = .ok (.iadd, 1) := by decide +kernel
theorem dL_law_528 : decode cL_law 528 = .ok (.iaload, 1) := by decide +kernel
theorem dL_law_529 : decode cL_law 529 = .ok (.aload_n 0, 1) := by decide +kernel
theorem dL_law_530 : decode cL_law 530 = .ok (.iload 4, 2) := by decide +kernel
theorem dL_law_532 : decode cL_law 532 = .ok (.iconst 2, 1) := by decide +kernel
theorem dL_law_533 : decode cL_law 533 = .ok (.iadd, 1) := by decide +kernel
theorem dL_law_534 : decode cL_law 534 = .ok (.iaload, 1) := by decide +kernel
theorem dL_law_535 : decode cL_law 535 = .ok (.aload_n 0, 1) := by decide +kernel
theorem dL_law_536 : decode cL_law 536 = .ok (.iload 4, 2) := by decide +kernel
theorem dL_law_538 : decode cL_law 538 = .ok (.iconst 3, 1) := by decide +kernel
theorem dL_law_539 : decode cL_law 539 = .ok (.iadd, 1) := by decide +kernel
theorem dL_law_540 : decode cL_law 540 = .ok (.iaload, 1) := by decide +kernel
theorem dL_law_541 : decode cL_law 541 = .ok (.aload_n 0, 1) := by decide +kernel
theorem dL_law_542 : decode cL_law 542 = .ok (.iload 4, 2) := by decide +kernel
theorem dL_law_544 : decode cL_law 544 = .ok (.iconst 4, 1) := by decide +kernel
theorem dL_law_545 : decode cL_law 545 = .ok (.iadd, 1) := by decide +kernel
theorem dL_law_546 : decode cL_law 546 = .ok (.iaload, 1) := by decide +kernel
theorem dL_law_547 : decode cL_law 547 = .ok (.aload_n 3, 1) := by decide +kernel
theorem dL_law_548 : decode cL_law 548 = .ok (.invokestatic 94, 3) := by decide +kernel
theorem dL_law_551 : decode cL_law 551 = .ok (.istore 5, 2) := by decide +kernel
theorem dL_law_553 : decode cL_law 553 = .ok (.aload_n 2, 1) := by decide +kernel
theorem dL_law_554 : decode cL_law 554 = .ok (.aload_n 0, 1) := by decide +kernel
theorem dL_law_555 : decode cL_law 555 = .ok (.iload 4, 2) := by decide +kernel
theorem dL_law_557 : decode cL_law 557 = .ok (.iconst 1, 1) := by decide +kernel
theorem dL_law_558 : decode cL_law 558 = .ok (.iadd, 1) := by decide +kernel
theorem dL_law_559 : decode cL_law 559 = .ok (.iaload, 1) := by decide +kernel
theorem dL_law_560 : decode cL_law 560 = .ok (.aload_n 0, 1) := by decide +kernel
theorem dL_law_561 : decode cL_law 561 = .ok (.iload 4, 2) := by decide +kernel
theorem dL_law_563 : decode cL_law 563 = .ok (.iconst 2, 1) := by decide +kernel
theorem dL_law_564 : decode cL_law 564 = .ok (.iadd, 1) := by decide +kernel
theorem dL_law_565 : decode cL_law 565 = .ok (.iaload, 1) := by decide +kernel
theorem dL_law_566 : decode cL_law 566 = .ok (.aload_n 0, 1) := by decide +kernel
theorem dL_law_567 : decode cL_law 567 = .ok (.iload 4, 2) := by decide +kernel
theorem dL_law_569 : decode cL_law 569 = .ok (.iconst 3, 1) := by decide +kernel
theorem dL_law_570 : decode cL_law 570 = .ok (.iadd, 1) := by decide +kernel
theorem dL_law_571 : decode cL_law 571 = .ok (.iaload, 1) := by decide +kernel
theorem dL_law_572 : decode cL_law 572 = .ok (.aload_n 0, 1) := by decide +kernel
theorem dL_law_573 : decode cL_law 573 = .ok (.iload 4, 2) := by decide +kernel
theorem dL_law_575 : decode cL_law 575 = .ok (.iconst 4, 1) := by decide +kernel
theorem dL_law_576 : decode cL_law 576 = .ok (.iadd, 1) := by decide +kernel
theorem dL_law_577 : decode cL_law 577 = .ok (.iaload, 1) := by decide +kernel
theorem dL_law_578 : decode cL_law 578 = .ok (.invokevirtual 97, 3) := by decide +kernel
theorem dL_law_581 : decode cL_law 581 = .ok (.istore 6, 2) := by decide +kernel
theorem dL_law_583 : decode cL_law 583 = .ok (.aload_n 2, 1) := by decide +kernel
theorem dL_law_584 : decode cL_law 584 = .ok (.invokevirtual 73, 3) := by decide +kernel
theorem dL_law_587 : decode cL_law 587 = .ok (.iload 5, 2) := by decide +kernel
theorem dL_law_589 : decode cL_law 589 = .ok (.if_icmp .eq 5, 3) := by decide +kernel
theorem dL_law_592 : decode cL_law 592 = .ok (.iconst 0, 1) := by decide +kernel
theorem dL_law_593 : decode cL_law 593 = .ok (.ireturn, 1) := by decide +kernel
theorem dL_law_594 : decode cL_law 594 = .ok (.iload 5, 2) := by decide +kernel
theorem dL_law_596 : decode cL_law 596 = .ok (.ifCond .ne 15, 3) := by decide +kernel
theorem dL_law_599 : decode cL_law 599 = .ok (.aload_n 3, 1) := by decide +kernel
theorem dL_law_600 : decode cL_law 600 = .ok (.iconst 0, 1) := by decide +kernel
theorem dL_law_601 : decode cL_law 601 = .ok (.laload, 1) := by decide +kernel
theorem dL_law_602 : decode cL_law 602 = .ok (.iload 6, 2) := by decide +kernel
theorem dL_law_604 : decode cL_law 604 = .ok (.i2l, 1) := by decide +kernel
theorem dL_law_605 : decode cL_law 605 = .ok (.lcmp, 1) := by decide +kernel
theorem dL_law_606 : decode cL_law 606 = .ok (.ifCond .eq 5, 3) := by decide +kernel
theorem dL_law_609 : decode cL_law 609 = .ok (.iconst 0, 1) := by decide +kernel
theorem dL_law_610 : decode cL_law 610 = .ok (.ireturn, 1) := by decide +kernel
theorem dL_law_611 : decode cL_law 611 = .ok (.goto 632, 3) := by decide +kernel
theorem dL_law_614 : decode cL_law 614 = .ok (.aload_n 1, 1) := by decide +kernel
theorem dL_law_615 : decode cL_law 615 = .ok (.invokevirtual 98, 3) := by decide +kernel
theorem dL_law_618 : decode cL_law 618 = .ok (.aload_n 2, 1) := by decide +kernel
theorem dL_law_619 : decode cL_law 619 = .ok (.invokevirtual 101, 3) := by decide +kernel
theorem dL_law_622 : decode cL_law 622 = .ok (.if_icmp .eq 621, 3) := by decide +kernel
theorem dL_law_625 : decode cL_law 625 = .ok (.iconst 0, 1) := by decide +kernel
theorem dL_law_626 : decode cL_law 626 = .ok (.ireturn, 1) := by decide +kernel
theorem dL_law_627 : decode cL_law 627 = .ok (.aload_n 1, 1) := by decide +kernel
theorem dL_law_628 : decode cL_law 628 = .ok (.aload_n 0, 1) := by decide +kernel
theorem dL_law_629 : decode cL_law 629 = .ok (.iload 4, 2) := by decide +kernel
theorem dL_law_631 : decode cL_law 631 = .ok (.iconst 1, 1) := by decide +kernel
theorem dL_law_632 : decode cL_law 632 = .ok (.iadd, 1) := by decide +kernel
theorem dL_law_633 : decode cL_law 633 = .ok (.iaload, 1) := by decide +kernel
theorem dL_law_634 : decode cL_law 634 = .ok (.aload_n 3, 1) := by decide +kernel
theorem dL_law_635 : decode cL_law 635 = .ok (.invokestatic 102, 3) := by decide +kernel
theorem dL_law_638 : decode cL_law 638 = .ok (.istore 5, 2) := by decide +kernel
theorem dL_law_640 : decode cL_law 640 = .ok (.aload_n 2, 1) := by decide +kernel
theorem dL_law_641 : decode cL_law 641 = .ok (.aload_n 0, 1) := by decide +kernel
theorem dL_law_642 : decode cL_law 642 = .ok (.iload 4, 2) := by decide +kernel
theorem dL_law_644 : decode cL_law 644 = .ok (.iconst 1, 1) := by decide +kernel
theorem dL_law_645 : decode cL_law 645 = .ok (.iadd, 1) := by decide +kernel
theorem dL_law_646 : decode cL_law 646 = .ok (.iaload, 1) := by decide +kernel
theorem dL_law_647 : decode cL_law 647 = .ok (.invokevirtual 104, 3) := by decide +kernel
theorem dL_law_650 : decode cL_law 650 = .ok (.istore 6, 2) := by decide +kernel
theorem dL_law_652 : decode cL_law 652 = .ok (.aload_n 2, 1) := by decide +kernel
theorem dL_law_653 : decode cL_law 653 = .ok (.invokevirtual 73, 3) := by decide +kernel
theorem dL_law_656 : decode cL_law 656 = .ok (.iload 5, 2) := by decide +kernel
theorem dL_law_658 : decode cL_law 658 = .ok (.if_icmp .eq 5, 3) := by decide +kernel
theorem dL_law_661 : decode cL_law 661 = .ok (.iconst 0, 1) := by decide +kernel
theorem dL_law_662 : decode cL_law 662 = .ok (.ireturn, 1) := by decide +kernel
theorem dL_law_663 : decode cL_law 663 = .ok (.iload 5, 2) := by decide +kernel
theorem dL_law_665 : decode cL_law 665 = .ok (.ifCond .ne 15, 3) := by decide +kernel
theorem dL_law_668 : decode cL_law 668 = .ok (.aload_n 3, 1) := by decide +kernel
theorem dL_law_669 : decode cL_law 669 = .ok (.iconst 0, 1) := by decide +kernel
theorem dL_law_670 : decode cL_law 670 = .ok (.laload, 1) := by decide +kernel
theorem dL_law_671 : decode cL_law 671 = .ok (.iload 6, 2) := by decide +kernel
theorem dL_law_673 : decode cL_law 673 = .ok (.i2l, 1) := by decide +kernel
theorem dL_law_674 : decode cL_law 674 = .ok (.lcmp, 1) := by decide +kernel
theorem dL_law_675 : decode cL_law 675 = .ok (.ifCond .eq 5, 3) := by decide +kernel
theorem dL_law_678 : decode cL_law 678 = .ok (.iconst 0, 1) := by decide +kernel
theorem dL_law_679 : decode cL_law 679 = .ok (.ireturn, 1) := by decide +kernel
theorem dL_law_680 : decode cL_law 680 = .ok (.goto 563, 3) := by decide +kernel
theorem dL_law_683 : decode cL_law 683 = .ok (.aload_n 1, 1) := by decide +kernel
theorem dL_law_684 : decode cL_law 684 = .ok (.aload_n 0, 1) := by decide +kernel
theorem dL_law_685 : decode cL_law 685 = .ok (.iload 4, 2) := by decide +kernel
theorem dL_law_687 : decode cL_law 687 = .ok (.iconst 1, 1) := by decide +kernel
theorem dL_law_688 : decode cL_law 688 = .ok (.iadd, 1) := by decide +kernel
theorem dL_law_689 : decode cL_law 689 = .ok (.iaload, 1) := by decide +kernel
theorem dL_law_690 : decode cL_law 690 = .ok (.aload_n 0, 1) := by decide +kernel
theorem dL_law_691 : decode cL_law 691 = .ok (.iload 4, 2) := by decide +kernel
theorem dL_law_693 : decode cL_law 693 = .ok (.iconst 2, 1) := by decide +kernel
theorem dL_law_694 : decode cL_law 694 = .ok (.iadd, 1) := by decide +kernel
theorem dL_law_695 : decode cL_law 695 = .ok (.iaload, 1) := by decide +kernel
theorem dL_law_696 : decode cL_law 696 = .ok (.aload_n 0, 1) := by decide +kernel
theorem dL_law_697 : decode cL_law 697 = .ok (.iload 4, 2) := by decide +kernel
theorem dL_law_699 : decode cL_law 699 = .ok (.iconst 3, 1) := by decide +kernel
theorem dL_law_700 : decode cL_law 700 = .ok (.iadd, 1) := by decide +kernel
theorem dL_law_701 : decode cL_law 701 = .ok (.iaload, 1) := by decide +kernel
theorem dL_law_702 : decode cL_law 702 = .ok (.aload_n 0, 1) := by decide +kernel
theorem dL_law_703 : decode cL_law 703 = .ok (.iload 4, 2) := by decide +kernel
theorem dL_law_705 : decode cL_law 705 = .ok (.iconst 4, 1) := by decide +kernel
theorem dL_law_706 : decode cL_law 706 = .ok (.iadd, 1) := by decide +kernel
theorem dL_law_707 : decode cL_law 707 = .ok (.iaload, 1) := by decide +kernel
theorem dL_law_708 : decode cL_law 708 = .ok (.aload_n 3, 1) := by decide +kernel
theorem dL_law_709 : decode cL_law 709 = .ok (.invokestatic 105, 3) := by decide +kernel
theorem dL_law_712 : decode cL_law 712 = .ok (.istore 5, 2) := by decide +kernel
theorem dL_law_714 : decode cL_law 714 = .ok (.aload_n 2, 1) := by decide +kernel
theorem dL_law_715 : decode cL_law 715 = .ok (.aload_n 0, 1) := by decide +kernel
theorem dL_law_716 : decode cL_law 716 = .ok (.iload 4, 2) := by decide +kernel
theorem dL_law_718 : decode cL_law 718 = .ok (.iconst 1, 1) := by decide +kernel
theorem dL_law_719 : decode cL_law 719 = .ok (.iadd, 1) := by decide +kernel
theorem dL_law_720 : decode cL_law 720 = .ok (.iaload, 1) := by decide +kernel
theorem dL_law_721 : decode cL_law 721 = .ok (.aload_n 0, 1) := by decide +kernel
theorem dL_law_722 : decode cL_law 722 = .ok (.iload 4, 2) := by decide +kernel
theorem dL_law_724 : decode cL_law 724 = .ok (.iconst 2, 1) := by decide +kernel
theorem dL_law_725 : decode cL_law 725 = .ok (.iadd, 1) := by decide +kernel
theorem dL_law_726 : decode cL_law 726 = .ok (.iaload, 1) := by decide +kernel
theorem dL_law_727 : decode cL_law 727 = .ok (.aload_n 0, 1) := by decide +kernel
theorem dL_law_728 : decode cL_law 728 = .ok (.iload 4, 2) := by decide +kernel
theorem dL_law_730 : decode cL_law 730 = .ok (.iconst 3, 1) := by decide +kernel
theorem dL_law_731 : decode cL_law 731 = .ok (.iadd, 1) := by decide +kernel
theorem dL_law_732 : decode cL_law 732 = .ok (.iaload, 1) := by decide +kernel
theorem dL_law_733 : decode cL_law 733 = .ok (.aload_n 0, 1) := by decide +kernel
theorem dL_law_734 : decode cL_law 734 = .ok (.iload 4, 2) := by decide +kernel
theorem dL_law_736 : decode cL_law 736 = .ok (.iconst 4, 1) := by decide +kernel
theorem dL_law_737 : decode cL_law 737 = .ok (.iadd, 1) := by decide +kernel
theorem dL_law_738 : decode cL_law 738 = .ok (.iaload, 1) := by decide +kernel
theorem dL_law_739 : decode cL_law 739 = .ok (.invokevirtual 107, 3) := by decide +kernel
theorem dL_law_742 : decode cL_law 742 = .ok (.istore 6, 2) := by decide +kernel
theorem dL_law_744 : decode cL_law 744 = .ok (.aload_n 2, 1) := by decide +kernel
theorem dL_law_745 : decode cL_law 745 = .ok (.invokevirtual 73, 3) := by decide +kernel
theorem dL_law_748 : decode cL_law 748 = .ok (.iload 5, 2) := by decide +kernel
theorem dL_law_750 : decode cL_law 750 = .ok (.if_icmp .eq 5, 3) := by decide +kernel
theorem dL_law_753 : decode cL_law 753 = .ok (.iconst 0, 1) := by decide +kernel
theorem dL_law_754 : decode cL_law 754 = .ok (.ireturn, 1) := by decide +kernel
theorem dL_law_755 : decode cL_law 755 = .ok (.iload 5, 2) := by decide +kernel
theorem dL_law_757 : decode cL_law 757 = .ok (.ifCond .ne 15, 3) := by decide +kernel
theorem dL_law_760 : decode cL_law 760 = .ok (.aload_n 3, 1) := by decide +kernel
theorem dL_law_761 : decode cL_law 761 = .ok (.iconst 0, 1) := by decide +kernel
theorem dL_law_762 : decode cL_law 762 = .ok (.laload, 1) := by decide +kernel
theorem dL_law_763 : decode cL_law 763 = .ok (.iload 6, 2) := by decide +kernel
theorem dL_law_765 : decode cL_law 765 = .ok (.i2l, 1) := by decide +kernel
theorem dL_law_766 : decode cL_law 766 = .ok (.lcmp, 1) := by decide +kernel
theorem dL_law_767 : decode cL_law 767 = .ok (.ifCond .eq 5, 3) := by decide +kernel
theorem dL_law_770 : decode cL_law 770 = .ok (.iconst 0, 1) := by decide +kernel
theorem dL_law_771 : decode cL_law 771 = .ok (.ireturn, 1) := by decide +kernel
theorem dL_law_772 : decode cL_law 772 = .ok (.goto 471, 3) := by decide +kernel
theorem dL_law_775 : decode cL_law 775 = .ok (.aload_n 1, 1) := by decide +kernel
theorem dL_law_776 : decode cL_law 776 = .ok (.aload_n 0, 1) := by decide +kernel
theorem dL_law_777 : decode cL_law 777 = .ok (.iload 4, 2) := by decide +kernel
theorem dL_law_779 : decode cL_law 779 = .ok (.iconst 1, 1) := by decide +kernel
theorem dL_law_780 : decode cL_law 780 = .ok (.iadd, 1) := by decide +kernel
theorem dL_law_781 : decode cL_law 781 = .ok (.iaload, 1) := by decide +kernel
theorem dL_law_782 : decode cL_law 782 = .ok (.aload_n 3, 1) := by decide +kernel
theorem dL_law_783 : decode cL_law 783 = .ok (.invokestatic 108, 3) := by decide +kernel
theorem dL_law_786 : decode cL_law 786 = .ok (.istore 5, 2) := by decide +kernel
theorem dL_law_788 : decode cL_law 788 = .ok (.aload_n 2, 1) := by decide +kernel
theorem dL_law_789 : decode cL_law 789 = .ok (.aload_n 0, 1) := by decide +kernel
theorem dL_law_790 : decode cL_law 790 = .ok (.iload 4, 2) := by decide +kernel
theorem dL_law_792 : decode cL_law 792 = .ok (.iconst 1, 1) := by decide +kernel
theorem dL_law_793 : decode cL_law 793 = .ok (.iadd, 1) := by decide +kernel
theorem dL_law_794 : decode cL_law 794 = .ok (.iaload, 1) := by decide +kernel
theorem dL_law_795 : decode cL_law 795 = .ok (.invokevirtual 110, 3) := by decide +kernel
theorem dL_law_798 : decode cL_law 798 = .ok (.istore 6, 2) := by decide +kernel
theorem dL_law_800 : decode cL_law 800 = .ok (.aload_n 2, 1) := by decide +kernel
theorem dL_law_801 : decode cL_law 801 = .ok (.invokevirtual 73, 3) := by decide +kernel
theorem dL_law_804 : decode cL_law 804 = .ok (.iload 5, 2) := by decide +kernel
theorem dL_law_806 : decode cL_law 806 = .ok (.if_icmp .eq 5, 3) := by decide +kernel
theorem dL_law_809 : decode cL_law 809 = .ok (.iconst 0, 1) := by decide +kernel
theorem dL_law_810 : decode cL_law 810 = .ok (.ireturn, 1) := by decide +kernel
theorem dL_law_811 : decode cL_law 811 = .ok (.iload 5, 2) := by decide +kernel
theorem dL_law_813 : decode cL_law 813 = .ok (.ifCond .ne 15, 3) := by decide +kernel
theorem dL_law_816 : decode cL_law 816 = .ok (.aload_n 3, 1) := by decide +kernel
theorem dL_law_817 : decode cL_law 817 = .ok (.iconst 0, 1) := by decide +kernel
theorem dL_law_818 : decode cL_law 818 = .ok (.laload, 1) := by decide +kernel
theorem dL_law_819 : decode cL_law 819 = .ok (.iload 6, 2) := by decide +kernel
theorem dL_law_821 : decode cL_law 821 = .ok (.i2l, 1) := by decide +kernel
theorem dL_law_822 : decode cL_law 822 = .ok (.lcmp, 1) := by decide +kernel
theorem dL_law_823 : decode cL_law 823 = .ok (.ifCond .eq 5, 3) := by decide +kernel
theorem dL_law_826 : decode cL_law 826 = .ok (.iconst 0, 1) := by decide +kernel
theorem dL_law_827 : decode cL_law 827 = .ok (.ireturn, 1) := by decide +kernel
theorem dL_law_828 : decode cL_law 828 = .ok (.goto 415, 3) := by decide +kernel
theorem dL_law_831 : decode cL_law 831 = .ok (.aload_n 1, 1) := by decide +kernel
theorem dL_law_832 : decode cL_law 832 = .ok (.aload_n 0, 1) := by decide +kernel
theorem dL_law_833 : decode cL_law 833 = .ok (.iload 4, 2) := by decide +kernel
theorem dL_law_835 : decode cL_law 835 = .ok (.iconst 1, 1) := by decide +kernel
theorem dL_law_836 : decode cL_law 836 = .ok (.iadd, 1) := by decide +kernel
theorem dL_law_837 : decode cL_law 837 = .ok (.iaload, 1) := by decide +kernel
theorem dL_law_838 : decode cL_law 838 = .ok (.aload_n 0, 1) := by decide +kernel
theorem dL_law_839 : decode cL_law 839 = .ok (.iload 4, 2) := by decide +kernel
theorem dL_law_841 : decode cL_law 841 = .ok (.iconst 2, 1) := by decide +kernel
theorem dL_law_842 : decode cL_law 842 = .ok (.iadd, 1) := by decide +kernel
theorem dL_law_843 : decode cL_law 843 = .ok (.iaload, 1) := by decide +kernel
theorem dL_law_844 : decode cL_law 844 = .ok (.aload_n 3, 1) := by decide +kernel
theorem dL_law_845 : decode cL_law 845 = .ok (.invokestatic 111, 3) := by decide +kernel
theorem dL_law_848 : decode cL_law 848 = .ok (.istore 5, 2) := by decide +kernel
theorem dL_law_850 : decode cL_law 850 = .ok (.aload_n 2, 1) := by decide +kernel
theorem dL_law_851 : decode cL_law 851 = .ok (.aload_n 0, 1) := by decide +kernel
theorem dL_law_852 : decode cL_law 852 = .ok (.iload 4, 2) := by decide +kernel
theorem dL_law_854 : decode cL_law 854 = .ok (.iconst 1, 1) := by decide +kernel
theorem dL_law_855 : decode cL_law 855 = .ok (.iadd, 1) := by decide +kernel
theorem dL_law_856 : decode cL_law 856 = .ok (.iaload, 1) := by decide +kernel
theorem dL_law_857 : decode cL_law 857 = .ok (.aload_n 0, 1) := by decide +kernel
theorem dL_law_858 : decode cL_law 858 = .ok (.iload 4, 2) := by decide +kernel
theorem dL_law_860 : decode cL_law 860 = .ok (.iconst 2, 1) := by decide +kernel
theorem dL_law_861 : decode cL_law 861 = .ok (.iadd, 1) := by decide +kernel
theorem dL_law_862 : decode cL_law 862 = .ok (.iaload, 1) := by decide +kernel
theorem dL_law_863 : decode cL_law 863 = .ok (.invokevirtual 113, 3) := by decide +kernel
theorem dL_law_866 : decode cL_law 866 = .ok (.istore 6, 2) := by decide +kernel
theorem dL_law_868 : decode cL_law 868 = .ok (.aload_n 2, 1) := by decide +kernel
theorem dL_law_869 : decode cL_law 869 = .ok (.invokevirtual 73, 3) := by decide +kernel
theorem dL_law_872 : decode cL_law 872 = .ok (.iload 5, 2) := by decide +kernel
theorem dL_law_874 : decode cL_law 874 = .ok (.if_icmp .eq 5, 3) := by decide +kernel
theorem dL_law_877 : decode cL_law 877 = .ok (.iconst 0, 1) := by decide +kernel
theorem dL_law_878 : decode cL_law 878 = .ok (.ireturn, 1) := by decide +kernel
theorem dL_law_879 : decode cL_law 879 = .ok (.iload 5, 2) := by decide +kernel
theorem dL_law_881 : decode cL_law 881 = .ok (.ifCond .ne 15, 3) := by decide +kernel
theorem dL_law_884 : decode cL_law 884 = .ok (.aload_n 3, 1) := by decide +kernel
theorem dL_law_885 : decode cL_law 885 = .ok (.iconst 0, 1) := by decide +kernel
theorem dL_law_886 : decode cL_law 886 = .ok (.laload, 1) := by decide +kernel
theorem dL_law_887 : decode cL_law 887 = .ok (.iload 6, 2) := by decide +kernel
theorem dL_law_889 : decode cL_law 889 = .ok (.i2l, 1) := by decide +kernel
theorem dL_law_890 : decode cL_law 890 = .ok (.lcmp, 1) := by decide +kernel
theorem dL_law_891 : decode cL_law 891 = .ok (.ifCond .eq 5, 3) := by decide +kernel
theorem dL_law_894 : decode cL_law 894 = .ok (.iconst 0, 1) := by decide +kernel
theorem dL_law_895 : decode cL_law 895 = .ok (.ireturn, 1) := by decide +kernel
theorem dL_law_896 : decode cL_law 896 = .ok (.goto 347, 3) := by decide +kernel
theorem dL_law_899 : decode cL_law 899 = .ok (.aload_n 1, 1) := by decide +kernel
theorem dL_law_900 : decode cL_law 900 = .ok (.aload_n 0, 1) := by decide +kernel
theorem dL_law_901 : decode cL_law 901 = .ok (.iload 4, 2) := by decide +kernel
theorem dL_law_903 : decode cL_law 903 = .ok (.iconst 1, 1) := by decide +kernel
theorem dL_law_904 : decode cL_law 904 = .ok (.iadd, 1) := by decide +kernel
theorem dL_law_905 : decode cL_law 905 = .ok (.iaload, 1) := by decide +kernel
theorem dL_law_906 : decode cL_law 906 = .ok (.aload_n 0, 1) := by decide +kernel
theorem dL_law_907 : decode cL_law 907 = .ok (.iload 4, 2) := by decide +kernel
theorem dL_law_909 : decode cL_law 909 = .ok (.iconst 2, 1) := by decide +kernel
theorem dL_law_910 : decode cL_law 910 = .ok (.iadd, 1) := by decide +kernel
theorem dL_law_911 : decode cL_law 911 = .ok (.iaload, 1) := by decide +kernel
theorem dL_law_912 : decode cL_law 912 = .ok (.aload_n 3, 1) := by decide +kernel
theorem dL_law_913 : decode cL_law 913 = .ok (.invokestatic 114, 3) := by decide +kernel
theorem dL_law_916 : decode cL_law 916 = .ok (.istore 5, 2) := by decide +kernel
theorem dL_law_918 : decode cL_law 918 = .ok (.aload_n 2, 1) := by decide +kernel
theorem dL_law_919 : decode cL_law 919 = .ok (.aload_n 0, 1) := by decide +kernel
theorem dL_law_920 : decode cL_law 920 = .ok (.iload 4, 2) := by decide +kernel
theorem dL_law_922 : decode cL_law 922 = .ok (.iconst 1, 1) := by decide +kernel
theorem dL_law_923 : decode cL_law 923 = .ok (.iadd, 1) := by decide +kernel
theorem dL_law_924 : decode cL_law 924 = .ok (.iaload, 1) := by decide +kernel
theorem dL_law_925 : decode cL_law 925 = .ok (.aload_n 0, 1) := by decide +kernel
theorem dL_law_926 : decode cL_law 926 = .ok (.iload 4, 2) := by decide +kernel
theorem dL_law_928 : decode cL_law 928 = .ok (.iconst 2, 1) := by decide +kernel
theorem dL_law_929 : decode cL_law 929 = .ok (.iadd, 1) := by decide +kernel
theorem dL_law_930 : decode cL_law 930 = .ok (.iaload, 1) := by decide +kernel
theorem dL_law_931 : decode cL_law 931 = .ok (.invokevirtual 116, 3) := by decide +kernel
theorem dL_law_934 : decode cL_law 934 = .ok (.istore 6, 2) := by decide +kernel
theorem dL_law_936 : decode cL_law 936 = .ok (.aload_n 2, 1) := by decide +kernel
theorem dL_law_937 : decode cL_law 937 = .ok (.invokevirtual 73, 3) := by decide +kernel
theorem dL_law_940 : decode cL_law 940 = .ok (.iload 5, 2) := by decide +kernel
theorem dL_law_942 : decode cL_law 942 = .ok (.if_icmp .eq 5, 3) := by decide +kernel
theorem dL_law_945 : decode cL_law 945 = .ok (.iconst 0, 1) := by decide +kernel
theorem dL_law_946 : decode cL_law 946 = .ok (.ireturn, 1) := by decide +kernel
theorem dL_law_947 : decode cL_law 947 = .ok (.iload 5, 2) := by decide +kernel
theorem dL_law_949 : decode cL_law 949 = .ok (.ifCond .ne 15, 3) := by decide +kernel
theorem dL_law_952 : decode cL_law 952 = .ok (.aload_n 3, 1) := by decide +kernel
theorem dL_law_953 : decode cL_law 953 = .ok (.iconst 0, 1) := by decide +kernel
theorem dL_law_954 : decode cL_law 954 = .ok (.laload, 1) := by decide +kernel
theorem dL_law_955 : decode cL_law 955 = .ok (.iload 6, 2) := by decide +kernel
theorem dL_law_957 : decode cL_law 957 = .ok (.i2l, 1) := by decide +kernel
theorem dL_law_958 : decode cL_law 958 = .ok (.lcmp, 1) := by decide +kernel
theorem dL_law_959 : decode cL_law 959 = .ok (.ifCond .eq 5, 3) := by decide +kernel
theorem dL_law_962 : decode cL_law 962 = .ok (.iconst 0, 1) := by decide +kernel
theorem dL_law_963 : decode cL_law 963 = .ok (.ireturn, 1) := by decide +kernel
theorem dL_law_964 : decode cL_law 964 = .ok (.goto 279, 3) := by decide +kernel
theorem dL_law_967 : decode cL_law 967 = .ok (.aload_n 1, 1) := by decide +kernel
theorem dL_law_968 : decode cL_law 968 = .ok (.aload_n 0, 1) := by decide +kernel
theorem dL_law_969 : decode cL_law 969 = .ok (.iload 4, 2) := by decide +kernel
theorem dL_law_971 : decode cL_law 971 = .ok (.iconst 1, 1) := by decide +kernel
theorem dL_law_972 : decode cL_law 972 = .ok (.iadd, 1) := by decide +kernel
theorem dL_law_973 : decode cL_law 973 = .ok (.iaload, 1) := by decide +kernel
theorem dL_law_974 : decode cL_law 974 = .ok (.aload_n 0, 1) := by decide +kernel
theorem dL_law_975 : decode cL_law 975 = .ok (.iload 4, 2) := by decide +kernel
theorem dL_law_977 : decode cL_law 977 = .ok (.iconst 2, 1) := by decide +kernel
theorem dL_law_978 : decode cL_law 978 = .ok (.iadd, 1) := by decide +kernel
theorem dL_law_979 : decode cL_law 979 = .ok (.iaload, 1) := by decide +kernel
theorem dL_law_980 : decode cL_law 980 = .ok (.aload_n 3, 1) := by decide +kernel
theorem dL_law_981 : decode cL_law 981 = .ok (.invokestatic 117, 3) := by decide +kernel
theorem dL_law_984 : decode cL_law 984 = .ok (.istore 5, 2) := by decide +kernel
theorem dL_law_986 : decode cL_law 986 = .ok (.aload_n 2, 1) := by decide +kernel
theorem dL_law_987 : decode cL_law 987 = .ok (.aload_n 0, 1) := by decide +kernel
theorem dL_law_988 : decode cL_law 988 = .ok (.iload 4, 2) := by decide +kernel
theorem dL_law_990 : decode cL_law 990 = .ok (.iconst 1, 1) := by decide +kernel
theorem dL_law_991 : decode cL_law 991 = .ok (.iadd, 1) := by decide +kernel
theorem dL_law_992 : decode cL_law 992 = .ok (.iaload, 1) := by decide +kernel
theorem dL_law_993 : decode cL_law 993 = .ok (.aload_n 0, 1) := by decide +kernel
theorem dL_law_994 : decode cL_law 994 = .ok (.iload 4, 2) := by decide +kernel
theorem dL_law_996 : decode cL_law 996 = .ok (.iconst 2, 1) := by decide +kernel
theorem dL_law_997 : decode cL_law 997 = .ok (.iadd, 1) := by decide +kernel
theorem dL_law_998 : decode cL_law 998 = .ok (.iaload, 1) := by decide +kernel
theorem dL_law_999 : decode cL_law 999 = .ok (.invokevirtual 119, 3) := by decide +kernel
theorem dL_law_1002 : decode cL_law 1002 = .ok (.istore 6, 2) := by decide +kernel
theorem dL_law_1004 : decode cL_law 1004 = .ok (.aload_n 2, 1) := by decide +kernel
theorem dL_law_1005 : decode cL_law 1005 = .ok (.invokevirtual 73, 3) := by decide +kernel
theorem dL_law_1008 : decode cL_law 1008 = .ok (.iload 5, 2) := by decide +kernel
theorem dL_law_1010 : decode cL_law 1010 = .ok (.if_icmp .eq 5, 3) := by decide +kernel
theorem dL_law_1013 : decode cL_law 1013 = .ok (.iconst 0, 1) := by decide +kernel
theorem dL_law_1014 : decode cL_law 1014 = .ok (.ireturn, 1) := by decide +kernel
theorem dL_law_1015 : decode cL_law 1015 = .ok (.iload 5, 2) := by decide +kernel
theorem dL_law_1017 : decode cL_law 1017 = .ok (.ifCond .ne 15, 3) := by decide +kernel
theorem dL_law_1020 : decode cL_law 1020 = .ok (.aload_n 3, 1) := by decide +kernel
theorem dL_law_1021 : decode cL_law 1021 = .ok (.iconst 0, 1) := by decide +kernel
theorem dL_law_1022 : decode cL_law 1022 = .ok (.laload, 1) := by decide +kernel
theorem dL_law_1023 : decode cL_law 1023 = .ok (.iload 6, 2) := by decide +kernel
theorem dL_law_1025 : decode cL_law 1025 = .ok (.i2l, 1) := by decide +kernel
theorem dL_law_1026 : decode cL_law 1026 = .ok (.lcmp, 1) := by decide +kernel
theorem dL_law_1027 : decode cL_law 1027 = .ok (.ifCond .eq 5, 3) := by decide +kernel
theorem dL_law_1030 : decode cL_law 1030 = .ok (.iconst 0, 1) := by decide +kernel
theorem dL_law_1031 : decode cL_law 1031 = .ok (.ireturn, 1) := by decide +kernel
theorem dL_law_1032 : decode cL_law 1032 = .ok (.goto 211, 3) := by decide +kernel
theorem dL_law_1035 : decode cL_law 1035 = .ok (.aload_n 1, 1) := by decide +kernel
theorem dL_law_1036 : decode cL_law 1036 = .ok (.aload_n 0, 1) := by decide +kernel
theorem dL_law_1037 : decode cL_law 1037 = .ok (.iload 4, 2) := by decide +kernel
theorem dL_law_1039 : decode cL_law 1039 = .ok (.iconst 1, 1) := by decide +kernel
theorem dL_law_1040 : decode cL_law 1040 = .ok (.iadd, 1) := by decide +kernel
theorem dL_law_1041 : decode cL_law 1041 = .ok (.iaload, 1) := by decide +kernel
theorem dL_law_1042 : decode cL_law 1042 = .ok (.aload_n 0, 1) := by decide +kernel
theorem dL_law_1043 : decode cL_law 1043 = .ok (.iload 4, 2) := by decide +kernel
theorem dL_law_1045 : decode cL_law 1045 = .ok (.iconst 2, 1) := by decide +kernel
theorem dL_law_1046 : decode cL_law 1046 = .ok (.iadd, 1) := by decide +kernel
theorem dL_law_1047 : decode cL_law 1047 = .ok (.iaload, 1) := by decide +kernel
theorem dL_law_1048 : decode cL_law 1048 = .ok (.aload_n 0, 1) := by decide +kernel
theorem dL_law_1049 : decode cL_law 1049 = .ok (.iload 4, 2) := by decide +kernel
theorem dL_law_1051 : decode cL_law 1051 = .ok (.iconst 3, 1) := by decide +kernel
theorem dL_law_1052 : decode cL_law 1052 = .ok (.iadd, 1) := by decide +kernel
theorem dL_law_1053 : decode cL_law 1053 = .ok (.iaload, 1) := by decide +kernel
theorem dL_law_1054 : decode cL_law 1054 = .ok (.aload_n 0, 1) := by decide +kernel
theorem dL_law_1055 : decode cL_law 1055 = .ok (.iload 4, 2) := by decide +kernel
theorem dL_law_1057 : decode cL_law 1057 = .ok (.iconst 4, 1) := by decide +kernel
theorem dL_law_1058 : decode cL_law 1058 = .ok (.iadd, 1) := by decide +kernel
theorem dL_law_1059 : decode cL_law 1059 = .ok (.iaload, 1) := by decide +kernel
theorem dL_law_1060 : decode cL_law 1060 = .ok (.aload_n 3, 1) := by decide +kernel
theorem dL_law_1061 : decode cL_law 1061 = .ok (.invokestatic 120, 3) := by decide +kernel
theorem dL_law_1064 : decode cL_law 1064 = .ok (.istore 5, 2) := by decide +kernel
theorem dL_law_1066 : decode cL_law 1066 = .ok (.aload_n 2, 1) := by decide +kernel
theorem dL_law_1067 : decode cL_law 1067 = .ok (.aload_n 0, 1) := by decide +kernel
theorem dL_law_1068 : decode cL_law 1068 = .ok (.iload 4, 2) := by decide +kernel
theorem dL_law_1070 : decode cL_law 1070 = .ok (.iconst 1, 1) := by decide +kernel
theorem dL_law_1071 : decode cL_law 1071 = .ok (.iadd, 1) := by decide +kernel
theorem dL_law_1072 : decode cL_law 1072 = .ok (.iaload, 1) := by decide +kernel
theorem dL_law_1073 : decode cL_law 1073 = .ok (.aload_n 0, 1) := by decide +kernel
theorem dL_law_1074 : decode cL_law 1074 = .ok (.iload 4, 2) := by decide +kernel
theorem dL_law_1076 : decode cL_law 1076 = .ok (.iconst 2, 1) := by decide +kernel
theorem dL_law_1077 : decode cL_law 1077 = .ok (.iadd, 1) := by decide +kernel
theorem dL_law_1078 : decode cL_law 1078 = .ok (.iaload, 1) := by decide +kernel
theorem dL_law_1079 : decode cL_law 1079 = .ok (.aload_n 0, 1) := by decide +kernel
theorem dL_law_1080 : decode cL_law 1080 = .ok (.iload 4, 2) := by decide +kernel
theorem dL_law_1082 : decode cL_law 1082 = .ok (.iconst 3, 1) := by decide +kernel
theorem dL_law_1083 : decode cL_law 1083 = .ok (.iadd, 1) := by decide +kernel
theorem dL_law_1084 : decode cL_law 1084 = .ok (.iaload, 1) := by decide +kernel
theorem dL_law_1085 : decode cL_law 1085 = .ok (.aload_n 0, 1) := by decide +kernel
theorem dL_law_1086 : decode cL_law 1086 = .ok (.iload 4, 2) := by decide +kernel
theorem dL_law_1088 : decode cL_law 1088 = .ok (.iconst 4, 1) := by decide +kernel
theorem dL_law_1089 : decode cL_law 1089 = .ok (.iadd, 1) := by decide +kernel
theorem dL_law_1090 : decode cL_law 1090 = .ok (.iaload, 1) := by decide +kernel
theorem dL_law_1091 : decode cL_law 1091 = .ok (.invokevirtual 122, 3) := by decide +kernel
theorem dL_law_1094 : decode cL_law 1094 = .ok (.istore 6, 2) := by decide +kernel
theorem dL_law_1096 : decode cL_law 1096 = .ok (.aload_n 2, 1) := by decide +kernel
theorem dL_law_1097 : decode cL_law 1097 = .ok (.invokevirtual 73, 3) := by decide +kernel
theorem dL_law_1100 : decode cL_law 1100 = .ok (.iload 5, 2) := by decide +kernel
theorem dL_law_1102 : decode cL_law 1102 = .ok (.if_icmp .eq 5, 3) := by decide +kernel
theorem dL_law_1105 : decode cL_law 1105 = .ok (.iconst 0, 1) := by decide +kernel
theorem dL_law_1106 : decode cL_law 1106 = .ok (.ireturn, 1) := by decide +kernel
theorem dL_law_1107 : decode cL_law 1107 = .ok (.iload 5, 2) := by decide +kernel
theorem dL_law_1109 : decode cL_law 1109 = .ok (.ifCond .ne 15, 3) := by decide +kernel
theorem dL_law_1112 : decode cL_law 1112 = .ok (.aload_n 3, 1) := by decide +kernel
theorem dL_law_1113 : decode cL_law 1113 = .ok (.iconst 0, 1) := by decide +kernel
theorem dL_law_1114 : decode cL_law 1114 = .ok (.laload, 1) := by decide +kernel
theorem dL_law_1115 : decode cL_law 1115 = .ok (.iload 6, 2) := by decide +kernel
theorem dL_law_1117 : decode cL_law 1117 = .ok (.i2l, 1) := by decide +kernel
theorem dL_law_1118 : decode cL_law 1118 = .ok (.lcmp, 1) := by decide +kernel
theorem dL_law_1119 : decode cL_law 1119 = .ok (.ifCond .eq 5, 3) := by decide +kernel
theorem dL_law_1122 : decode cL_law 1122 = .ok (.iconst 0, 1) := by decide +kernel
theorem dL_law_1123 : decode cL_law 1123 = .ok (.ireturn, 1) := by decide +kernel
theorem dL_law_1124 : decode cL_law 1124 = .ok (.goto 119, 3) := by decide +kernel
theorem dL_law_1127 : decode cL_law 1127 = .ok (.aload_n 1, 1) := by decide +kernel
theorem dL_law_1128 : decode cL_law 1128 = .ok (.aload_n 0, 1) := by decide +kernel
theorem dL_law_1129 : decode cL_law 1129 = .ok (.iload 4, 2) := by decide +kernel
theorem dL_law_1131 : decode cL_law 1131 = .ok (.iconst 1, 1) := by decide +kernel
theorem dL_law_1132 : decode cL_law 1132 = .ok (.iadd, 1) := by decide +kernel
theorem dL_law_1133 : decode cL_law 1133 = .ok (.iaload, 1) := by decide +kernel
theorem dL_law_1134 : decode cL_law 1134 = .ok (.aload_n 0, 1) := by decide +kernel
theorem dL_law_1135 : decode cL_law 1135 = .ok (.iload 4, 2) := by decide +kernel
theorem dL_law_1137 : decode cL_law 1137 = .ok (.iconst 2, 1) := by decide +kernel
theorem dL_law_1138 : decode cL_law 1138 = .ok (.iadd, 1) := by decide +kernel
theorem dL_law_1139 : decode cL_law 1139 = .ok (.iaload, 1) := by decide +kernel
theorem dL_law_1140 : decode cL_law 1140 = .ok (.aload_n 0, 1) := by decide +kernel
theorem dL_law_1141 : decode cL_law 1141 = .ok (.iload 4, 2) := by decide +kernel
theorem dL_law_1143 : decode cL_law 1143 = .ok (.iconst 3, 1) := by decide +kernel
theorem dL_law_1144 : decode cL_law 1144 = .ok (.iadd, 1) := by decide +kernel
theorem dL_law_1145 : decode cL_law 1145 = .ok (.iaload, 1) := by decide +kernel
theorem dL_law_1146 : decode cL_law 1146 = .ok (.aload_n 0, 1) := by decide +kernel
theorem dL_law_1147 : decode cL_law 1147 = .ok (.iload 4, 2) := by decide +kernel
theorem dL_law_1149 : decode cL_law 1149 = .ok (.iconst 4, 1) := by decide +kernel
theorem dL_law_1150 : decode cL_law 1150 = .ok (.iadd, 1) := by decide +kernel
theorem dL_law_1151 : decode cL_law 1151 = .ok (.iaload, 1) := by decide +kernel
theorem dL_law_1152 : decode cL_law 1152 = .ok (.aload_n 3, 1) := by decide +kernel
theorem dL_law_1153 : decode cL_law 1153 = .ok (.invokestatic 123, 3) := by decide +kernel
theorem dL_law_1156 : decode cL_law 1156 = .ok (.istore 5, 2) := by decide +kernel
theorem dL_law_1158 : decode cL_law 1158 = .ok (.aload_n 2, 1) := by decide +kernel
theorem dL_law_1159 : decode cL_law 1159 = .ok (.aload_n 0, 1) := by decide +kernel
theorem dL_law_1160 : decode cL_law 1160 = .ok (.iload 4, 2) := by decide +kernel
theorem dL_law_1162 : decode cL_law 1162 = .ok (.iconst 1, 1) := by decide +kernel
theorem dL_law_1163 : decode cL_law 1163 = .ok (.iadd, 1) := by decide +kernel
theorem dL_law_1164 : decode cL_law 1164 = .ok (.iaload, 1) := by decide +kernel
theorem dL_law_1165 : decode cL_law 1165 = .ok (.aload_n 0, 1) := by decide +kernel
theorem dL_law_1166 : decode cL_law 1166 = .ok (.iload 4, 2) := by decide +kernel
theorem dL_law_1168 : decode cL_law 1168 = .ok (.iconst 2, 1) := by decide +kernel
theorem dL_law_1169 : decode cL_law 1169 = .ok (.iadd, 1) := by decide +kernel
theorem dL_law_1170 : decode cL_law 1170 = .ok (.iaload, 1) := by decide +kernel
theorem dL_law_1171 : decode cL_law 1171 = .ok (.aload_n 0, 1) := by decide +kernel
theorem dL_law_1172 : decode cL_law 1172 = .ok (.iload 4, 2) := by decide +kernel
theorem dL_law_1174 : decode cL_law 1174 = .ok (.iconst 3, 1) := by decide +kernel
theorem dL_law_1175 : decode cL_law 1175 = .ok (.iadd, 1) := by decide +kernel
theorem dL_law_1176 : decode cL_law 1176 = .ok (.iaload, 1) := by decide +kernel
theorem dL_law_1177 : decode cL_law 1177 = .ok (.aload_n 0, 1) := by decide +kernel
theorem dL_law_1178 : decode cL_law 1178 = .ok (.iload 4, 2) := by decide +kernel
theorem dL_law_1180 : decode cL_law 1180 = .ok (.iconst 4, 1) := by decide +kernel
theorem dL_law_1181 : decode cL_law 1181 = .ok (.iadd, 1) := by decide +kernel
theorem dL_law_1182 : decode cL_law 1182 = .ok (.iaload, 1) := by decide +kernel
theorem dL_law_1183 : decode cL_law 1183 = .ok (.invokevirtual 125, 3) := by decide +kernel
theorem dL_law_1186 : decode cL_law 1186 = .ok (.istore 6, 2) := by decide +kernel
theorem dL_law_1188 : decode cL_law 1188 = .ok (.aload_n 2, 1) := by decide +kernel
theorem dL_law_1189 : decode cL_law 1189 = .ok (.invokevirtual 73, 3) := by decide +kernel
theorem dL_law_1192 : decode cL_law 1192 = .ok (.iload 5, 2) := by decide +kernel
theorem dL_law_1194 : decode cL_law 1194 = .ok (.if_icmp .eq 5, 3) := by decide +kernel
theorem dL_law_1197 : decode cL_law 1197 = .ok (.iconst 0, 1) := by decide +kernel
theorem dL_law_1198 : decode cL_law 1198 = .ok (.ireturn, 1) := by decide +kernel
theorem dL_law_1199 : decode cL_law 1199 = .ok (.iload 5, 2) := by decide +kernel
theorem dL_law_1201 : decode cL_law 1201 = .ok (.ifCond .ne 15, 3) := by decide +kernel
theorem dL_law_1204 : decode cL_law 1204 = .ok (.aload_n 3, 1) := by decide +kernel
theorem dL_law_1205 : decode cL_law 1205 = .ok (.iconst 0, 1) := by decide +kernel
theorem dL_law_1206 : decode cL_law 1206 = .ok (.laload, 1) := by decide +kernel
theorem dL_law_1207 : decode cL_law 1207 = .ok (.iload 6, 2) := by decide +kernel
theorem dL_law_1209 : decode cL_law 1209 = .ok (.i2l, 1) := by decide +kernel
theorem dL_law_1210 : decode cL_law 1210 = .ok (.lcmp, 1) := by decide +kernel
theorem dL_law_1211 : decode cL_law 1211 = .ok (.ifCond .eq 5, 3) := by decide +kernel
theorem dL_law_1214 : decode cL_law 1214 = .ok (.iconst 0, 1) := by decide +kernel
theorem dL_law_1215 : decode cL_law 1215 = .ok (.ireturn, 1) := by decide +kernel
theorem dL_law_1216 : decode cL_law 1216 = .ok (.goto 27, 3) := by decide +kernel
theorem dL_law_1219 : decode cL_law 1219 = .ok (.aload_n 1, 1) := by decide +kernel
theorem dL_law_1220 : decode cL_law 1220 = .ok (.invokevirtual 126, 3) := by decide +kernel
theorem dL_law_1223 : decode cL_law 1223 = .ok (.aload_n 2, 1) := by decide +kernel
theorem dL_law_1224 : decode cL_law 1224 = .ok (.invokevirtual 129, 3) := by decide +kernel
theorem dL_law_1227 : decode cL_law 1227 = .ok (.goto 16, 3) := by decide +kernel
theorem dL_law_1230 : decode cL_law 1230 = .ok (.aload_n 1, 1) := by decide +kernel
theorem dL_law_1231 : decode cL_law 1231 = .ok (.invokevirtual 130, 3) := by decide +kernel
theorem dL_law_1234 : decode cL_law 1234 = .ok (.aload_n 2, 1) := by decide +kernel
theorem dL_law_1235 : decode cL_law 1235 = .ok (.invokevirtual 134, 3) := by decide +kernel
theorem dL_law_1238 : decode cL_law 1238 = .ok (.if_icmp .eq 5, 3) := by decide +kernel
theorem dL_law_1241 : decode cL_law 1241 = .ok (.iconst 0, 1) := by decide +kernel
theorem dL_law_1242 : decode cL_law 1242 = .ok (.ireturn, 1) := by decide +kernel
theorem dL_law_1243 : decode cL_law 1243 = .ok (.iinc 4 6, 3) := by decide +kernel
theorem dL_law_1246 : decode cL_law 1246 = .ok (.goto (-1223), 3) := by decide +kernel
theorem dL_law_1249 : decode cL_law 1249 = .ok (.iconst 1, 1) := by decide +kernel
theorem dL_law_1250 : decode cL_law 1250 = .ok (.ireturn, 1) := by decide +kernel

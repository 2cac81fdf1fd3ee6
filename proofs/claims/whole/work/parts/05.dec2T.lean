theorem dT_init_0 : decode cT_init 0 = .ok (.aload_n 0, 1) := by decide +kernel
theorem dT_init_1 : decode cT_init 1 = .ok (.invokespecial 1, 3) := by decide +kernel
theorem dT_init_4 : decode cT_init 4 = .ok (.aload_n 0, 1) := by decide +kernel
theorem dT_init_5 : decode cT_init 5 = .ok (.iconst 4, 1) := by decide +kernel
theorem dT_init_6 : decode cT_init 6 = .ok (.anewarray 9, 3) := by decide +kernel
theorem dT_init_9 : decode cT_init 9 = .ok (.putfield 11, 3) := by decide +kernel
theorem dT_init_12 : decode cT_init 12 = .ok (.iconst 0, 1) := by decide +kernel
theorem dT_init_13 : decode cT_init 13 = .ok (.istore_n 1, 1) := by decide +kernel
theorem dT_init_14 : decode cT_init 14 = .ok (.iload_n 1, 1) := by decide +kernel
theorem dT_init_15 : decode cT_init 15 = .ok (.iconst 4, 1) := by decide +kernel
theorem dT_init_16 : decode cT_init 16 = .ok (.if_icmp .ge 22, 3) := by decide +kernel
theorem dT_init_19 : decode cT_init 19 = .ok (.aload_n 0, 1) := by decide +kernel
theorem dT_init_20 : decode cT_init 20 = .ok (.getfield 11, 3) := by decide +kernel
theorem dT_init_23 : decode cT_init 23 = .ok (.iload_n 1, 1) := by decide +kernel
theorem dT_init_24 : decode cT_init 24 = .ok (.new 9, 3) := by decide +kernel
theorem dT_init_27 : decode cT_init 27 = .ok (.dup, 1) := by decide +kernel
theorem dT_init_28 : decode cT_init 28 = .ok (.invokespecial 15, 3) := by decide +kernel
theorem dT_init_31 : decode cT_init 31 = .ok (.aastore, 1) := by decide +kernel
theorem dT_init_32 : decode cT_init 32 = .ok (.iinc 1 1, 3) := by decide +kernel
theorem dT_init_35 : decode cT_init 35 = .ok (.goto (-21), 3) := by decide +kernel
theorem dT_init_38 : decode cT_init 38 = .ok (.return_, 1) := by decide +kernel
theorem dT_mix_0 : decode cT_mix 0 = .ok (.iload_n 1, 1) := by decide +kernel
theorem dT_mix_1 : decode cT_mix 1 = .ok (.ifCond .lt 9, 3) := by decide +kernel
theorem dT_mix_4 : decode cT_mix 4 = .ok (.iload_n 1, 1) := by decide +kernel
theorem dT_mix_5 : decode cT_mix 5 = .ok (.bipush 6, 2) := by decide +kernel
theorem dT_mix_7 : decode cT_mix 7 = .ok (.if_icmp .le 5, 3) := by decide +kernel
theorem dT_mix_10 : decode cT_mix 10 = .ok (.iconst 0, 1) := by decide +kernel
theorem dT_mix_11 : decode cT_mix 11 = .ok (.ireturn, 1) := by decide +kernel
theorem dT_mix_12 : decode cT_mix 12 = .ok (.aload_n 0, 1) := by decide +kernel
theorem dT_mix_13 : decode cT_mix 13 = .ok (.iload_n 1, 1) := by decide +kernel
theorem dT_mix_14 : decode cT_mix 14 = .ok (.iconst 3, 1) := by decide +kernel
theorem dT_mix_15 : decode cT_mix 15 = .ok (.if_icmp .ne 7, 3) := by decide +kernel
theorem dT_mix_18 : decode cT_mix 18 = .ok (.iconst 4, 1) := by decide +kernel
theorem dT_mix_19 : decode cT_mix 19 = .ok (.goto 4, 3) := by decide +kernel
theorem dT_mix_22 : decode cT_mix 22 = .ok (.iconst 3, 1) := by decide +kernel
theorem dT_mix_23 : decode cT_mix 23 = .ok (.invokevirtual 72, 3) := by decide +kernel
theorem dT_mix_26 : decode cT_mix 26 = .ok (.ifCond .ne 5, 3) := by decide +kernel
theorem dT_mix_29 : decode cT_mix 29 = .ok (.iconst 0, 1) := by decide +kernel
theorem dT_mix_30 : decode cT_mix 30 = .ok (.ireturn, 1) := by decide +kernel
theorem dT_mix_31 : decode cT_mix 31 = .ok (.iconst 0, 1) := by decide +kernel
theorem dT_mix_32 : decode cT_mix 32 = .ok (.istore_n 2, 1) := by decide +kernel
theorem dT_mix_33 : decode cT_mix 33 = .ok (.iload_n 2, 1) := by decide +kernel
theorem dT_mix_34 : decode cT_mix 34 = .ok (.aload_n 0, 1) := by decide +kernel
theorem dT_mix_35 : decode cT_mix 35 = .ok (.getfield 11, 3) := by decide +kernel
theorem dT_mix_38 : decode cT_mix 38 = .ok (.iconst 0, 1) := by decide +kernel
theorem dT_mix_39 : decode cT_mix 39 = .ok (.aaload, 1) := by decide +kernel
theorem dT_mix_40 : decode cT_mix 40 = .ok (.getfield 53, 3) := by decide +kernel
theorem dT_mix_43 : decode cT_mix 43 = .ok (.if_icmp .ge 40, 3) := by decide +kernel
theorem dT_mix_46 : decode cT_mix 46 = .ok (.iconst 0, 1) := by decide +kernel
theorem dT_mix_47 : decode cT_mix 47 = .ok (.istore_n 3, 1) := by decide +kernel
theorem dT_mix_48 : decode cT_mix 48 = .ok (.iload_n 3, 1) := by decide +kernel
theorem dT_mix_49 : decode cT_mix 49 = .ok (.aload_n 0, 1) := by decide +kernel
theorem dT_mix_50 : decode cT_mix 50 = .ok (.getfield 11, 3) := by decide +kernel
theorem dT_mix_53 : decode cT_mix 53 = .ok (.iconst 0, 1) := by decide +kernel
theorem dT_mix_54 : decode cT_mix 54 = .ok (.aaload, 1) := by decide +kernel
theorem dT_mix_55 : decode cT_mix 55 = .ok (.getfield 45, 3) := by decide +kernel
theorem dT_mix_58 : decode cT_mix 58 = .ok (.if_icmp .ge 19, 3) := by decide +kernel
theorem dT_mix_61 : decode cT_mix 61 = .ok (.aload_n 0, 1) := by decide +kernel
theorem dT_mix_62 : decode cT_mix 62 = .ok (.iload_n 1, 1) := by decide +kernel
theorem dT_mix_63 : decode cT_mix 63 = .ok (.iload_n 3, 1) := by decide +kernel
theorem dT_mix_64 : decode cT_mix 64 = .ok (.iload_n 2, 1) := by decide +kernel
theorem dT_mix_65 : decode cT_mix 65 = .ok (.invokestatic 41, 3) := by decide +kernel
theorem dT_mix_68 : decode cT_mix 68 = .ok (.invokevirtual 76, 3) := by decide +kernel
theorem dT_mix_71 : decode cT_mix 71 = .ok (.iinc 3 1, 3) := by decide +kernel
theorem dT_mix_74 : decode cT_mix 74 = .ok (.goto (-26), 3) := by decide +kernel
theorem dT_mix_77 : decode cT_mix 77 = .ok (.iinc 2 1, 3) := by decide +kernel
theorem dT_mix_80 : decode cT_mix 80 = .ok (.goto (-47), 3) := by decide +kernel
theorem dT_mix_83 : decode cT_mix 83 = .ok (.iconst 1, 1) := by decide +kernel
theorem dT_mix_84 : decode cT_mix 84 = .ok (.ireturn, 1) := by decide +kernel
theorem dT_firstAreOfOneSize_0 : decode cT_firstAreOfOneSize 0 = .ok (.iconst 1, 1) := by decide +kernel
theorem dT_firstAreOfOneSize_1 : decode cT_firstAreOfOneSize 1 = .ok (.istore_n 2, 1) := by decide +kernel
theorem dT_firstAreOfOneSize_2 : decode cT_firstAreOfOneSize 2 = .ok (.iload_n 2, 1) := by decide +kernel
theorem dT_firstAreOfOneSize_3 : decode cT_firstAreOfOneSize 3 = .ok (.iload_n 1, 1) := by decide +kernel
theorem dT_firstAreOfOneSize_4 : decode cT_firstAreOfOneSize 4 = .ok (.if_icmp .ge 29, 3) := by decide +kernel
theorem dT_firstAreOfOneSize_7 : decode cT_firstAreOfOneSize 7 = .ok (.aload_n 0, 1) := by decide +kernel
theorem dT_firstAreOfOneSize_8 : decode cT_firstAreOfOneSize 8 = .ok (.getfield 11, 3) := by decide +kernel
theorem dT_firstAreOfOneSize_11 : decode cT_firstAreOfOneSize 11 = .ok (.iload_n 2, 1) := by decide +kernel
theorem dT_firstAreOfOneSize_12 : decode cT_firstAreOfOneSize 12 = .ok (.aaload, 1) := by decide +kernel
theorem dT_firstAreOfOneSize_13 : decode cT_firstAreOfOneSize 13 = .ok (.aload_n 0, 1) := by decide +kernel
theorem dT_firstAreOfOneSize_14 : decode cT_firstAreOfOneSize 14 = .ok (.getfield 11, 3) := by decide +kernel
theorem dT_firstAreOfOneSize_17 : decode cT_firstAreOfOneSize 17 = .ok (.iconst 0, 1) := by decide +kernel
theorem dT_firstAreOfOneSize_18 : decode cT_firstAreOfOneSize 18 = .ok (.aaload, 1) := by decide +kernel
theorem dT_firstAreOfOneSize_19 : decode cT_firstAreOfOneSize 19 = .ok (.invokevirtual 94, 3) := by decide +kernel
theorem dT_firstAreOfOneSize_22 : decode cT_firstAreOfOneSize 22 = .ok (.ifCond .ne 5, 3) := by decide +kernel
theorem dT_firstAreOfOneSize_25 : decode cT_firstAreOfOneSize 25 = .ok (.iconst 0, 1) := by decide +kernel
theorem dT_firstAreOfOneSize_26 : decode cT_firstAreOfOneSize 26 = .ok (.ireturn, 1) := by decide +kernel
theorem dT_firstAreOfOneSize_27 : decode cT_firstAreOfOneSize 27 = .ok (.iinc 2 1, 3) := by decide +kernel
theorem dT_firstAreOfOneSize_30 : decode cT_firstAreOfOneSize 30 = .ok (.goto (-28), 3) := by decide +kernel
theorem dT_firstAreOfOneSize_33 : decode cT_firstAreOfOneSize 33 = .ok (.iconst 1, 1) := by decide +kernel
theorem dT_firstAreOfOneSize_34 : decode cT_firstAreOfOneSize 34 = .ok (.ireturn, 1) := by decide +kernel
theorem dT_placeOf_0 : decode cT_placeOf 0 = .ok (.iload_n 1, 1) := by decide +kernel
theorem dT_placeOf_1 : decode cT_placeOf 1 = .ok (.bipush 32, 2) := by decide +kernel
theorem dT_placeOf_3 : decode cT_placeOf 3 = .ok (.imul, 1) := by decide +kernel
theorem dT_placeOf_4 : decode cT_placeOf 4 = .ok (.iload_n 0, 1) := by decide +kernel
theorem dT_placeOf_5 : decode cT_placeOf 5 = .ok (.iadd, 1) := by decide +kernel
theorem dT_placeOf_6 : decode cT_placeOf 6 = .ok (.ireturn, 1) := by decide +kernel
theorem dT_mixPlace_0 : decode cT_mixPlace 0 = .ok (.iload_n 1, 1) := by decide +kernel
theorem dT_mixPlace_1 : decode cT_mixPlace 1 = .ok (.tableswitch 109 0 6 #[43, 51, 59, 67, 75, 83, 96], 43) := by decide +kernel
theorem dT_mixPlace_44 : decode cT_mixPlace 44 = .ok (.aload_n 0, 1) := by decide +kernel
theorem dT_mixPlace_45 : decode cT_mixPlace 45 = .ok (.iload_n 2, 1) := by decide +kernel
theorem dT_mixPlace_46 : decode cT_mixPlace 46 = .ok (.invokevirtual 119, 3) := by decide +kernel
theorem dT_mixPlace_49 : decode cT_mixPlace 49 = .ok (.goto 61, 3) := by decide +kernel
theorem dT_mixPlace_52 : decode cT_mixPlace 52 = .ok (.aload_n 0, 1) := by decide +kernel
theorem dT_mixPlace_53 : decode cT_mixPlace 53 = .ok (.iload_n 2, 1) := by decide +kernel
theorem dT_mixPlace_54 : decode cT_mixPlace 54 = .ok (.invokevirtual 122, 3) := by decide +kernel
theorem dT_mixPlace_57 : decode cT_mixPlace 57 = .ok (.goto 53, 3) := by decide +kernel
theorem dT_mixPlace_60 : decode cT_mixPlace 60 = .ok (.aload_n 0, 1) := by decide +kernel
theorem dT_mixPlace_61 : decode cT_mixPlace 61 = .ok (.iload_n 2, 1) := by decide +kernel
theorem dT_mixPlace_62 : decode cT_mixPlace 62 = .ok (.invokevirtual 125, 3) := by decide +kernel
theorem dT_mixPlace_65 : decode cT_mixPlace 65 = .ok (.goto 45, 3) := by decide +kernel
theorem dT_mixPlace_68 : decode cT_mixPlace 68 = .ok (.aload_n 0, 1) := by decide +kernel
theorem dT_mixPlace_69 : decode cT_mixPlace 69 = .ok (.iload_n 2, 1) := by decide +kernel
theorem dT_mixPlace_70 : decode cT_mixPlace 70 = .ok (.invokevirtual 128, 3) := by decide +kernel
theorem dT_mixPlace_73 : decode cT_mixPlace 73 = .ok (.goto 37, 3) := by decide +kernel
theorem dT_mixPlace_76 : decode cT_mixPlace 76 = .ok (.aload_n 0, 1) := by decide +kernel
theorem dT_mixPlace_77 : decode cT_mixPlace 77 = .ok (.iload_n 2, 1) := by decide +kernel
theorem dT_mixPlace_78 : decode cT_mixPlace 78 = .ok (.invokevirtual 131, 3) := by decide +kernel
theorem dT_mixPlace_81 : decode cT_mixPlace 81 = .ok (.goto 29, 3) := by decide +kernel
theorem dT_mixPlace_84 : decode cT_mixPlace 84 = .ok (.aload_n 0, 1) := by decide +kernel
theorem dT_mixPlace_85 : decode cT_mixPlace 85 = .ok (.iload_n 2, 1) := by decide +kernel
theorem dT_mixPlace_86 : decode cT_mixPlace 86 = .ok (.invokevirtual 119, 3) := by decide +kernel
theorem dT_mixPlace_89 : decode cT_mixPlace 89 = .ok (.aload_n 0, 1) := by decide +kernel
theorem dT_mixPlace_90 : decode cT_mixPlace 90 = .ok (.iload_n 2, 1) := by decide +kernel
theorem dT_mixPlace_91 : decode cT_mixPlace 91 = .ok (.invokevirtual 125, 3) := by decide +kernel
theorem dT_mixPlace_94 : decode cT_mixPlace 94 = .ok (.goto 16, 3) := by decide +kernel
theorem dT_mixPlace_97 : decode cT_mixPlace 97 = .ok (.aload_n 0, 1) := by decide +kernel
theorem dT_mixPlace_98 : decode cT_mixPlace 98 = .ok (.iload_n 2, 1) := by decide +kernel
theorem dT_mixPlace_99 : decode cT_mixPlace 99 = .ok (.invokevirtual 125, 3) := by decide +kernel
theorem dT_mixPlace_102 : decode cT_mixPlace 102 = .ok (.aload_n 0, 1) := by decide +kernel
theorem dT_mixPlace_103 : decode cT_mixPlace 103 = .ok (.iload_n 2, 1) := by decide +kernel
theorem dT_mixPlace_104 : decode cT_mixPlace 104 = .ok (.invokevirtual 122, 3) := by decide +kernel
theorem dT_mixPlace_107 : decode cT_mixPlace 107 = .ok (.goto 3, 3) := by decide +kernel
theorem dT_mixPlace_110 : decode cT_mixPlace 110 = .ok (.return_, 1) := by decide +kernel
theorem dT_open_0 : decode cT_open 0 = .ok (.aload_n 0, 1) := by decide +kernel
theorem dT_open_1 : decode cT_open 1 = .ok (.getfield 11, 3) := by decide +kernel
theorem dT_open_4 : decode cT_open 4 = .ok (.iconst 0, 1) := by decide +kernel
theorem dT_open_5 : decode cT_open 5 = .ok (.aaload, 1) := by decide +kernel
theorem dT_open_6 : decode cT_open 6 = .ok (.getfield 37, 3) := by decide +kernel
theorem dT_open_9 : decode cT_open 9 = .ok (.iload_n 1, 1) := by decide +kernel
theorem dT_open_10 : decode cT_open 10 = .ok (.iaload, 1) := by decide +kernel
theorem dT_open_11 : decode cT_open 11 = .ok (.istore_n 2, 1) := by decide +kernel
theorem dT_open_12 : decode cT_open 12 = .ok (.aload_n 0, 1) := by decide +kernel
theorem dT_open_13 : decode cT_open 13 = .ok (.getfield 11, 3) := by decide +kernel
theorem dT_open_16 : decode cT_open 16 = .ok (.iconst 1, 1) := by decide +kernel
theorem dT_open_17 : decode cT_open 17 = .ok (.aaload, 1) := by decide +kernel
theorem dT_open_18 : decode cT_open 18 = .ok (.getfield 37, 3) := by decide +kernel
theorem dT_open_21 : decode cT_open 21 = .ok (.iload_n 1, 1) := by decide +kernel
theorem dT_open_22 : decode cT_open 22 = .ok (.iaload, 1) := by decide +kernel
theorem dT_open_23 : decode cT_open 23 = .ok (.sipush 128, 3) := by decide +kernel
theorem dT_open_26 : decode cT_open 26 = .ok (.isub, 1) := by decide +kernel
theorem dT_open_27 : decode cT_open 27 = .ok (.istore_n 3, 1) := by decide +kernel
theorem dT_open_28 : decode cT_open 28 = .ok (.aload_n 0, 1) := by decide +kernel
theorem dT_open_29 : decode cT_open 29 = .ok (.getfield 11, 3) := by decide +kernel
theorem dT_open_32 : decode cT_open 32 = .ok (.iconst 2, 1) := by decide +kernel
theorem dT_open_33 : decode cT_open 33 = .ok (.aaload, 1) := by decide +kernel
theorem dT_open_34 : decode cT_open 34 = .ok (.getfield 37, 3) := by decide +kernel
theorem dT_open_37 : decode cT_open 37 = .ok (.iload_n 1, 1) := by decide +kernel
theorem dT_open_38 : decode cT_open 38 = .ok (.iaload, 1) := by decide +kernel
theorem dT_open_39 : decode cT_open 39 = .ok (.sipush 128, 3) := by decide +kernel
theorem dT_open_42 : decode cT_open 42 = .ok (.isub, 1) := by decide +kernel
theorem dT_open_43 : decode cT_open 43 = .ok (.istore 4, 2) := by decide +kernel
theorem dT_open_45 : decode cT_open 45 = .ok (.aload_n 0, 1) := by decide +kernel
theorem dT_open_46 : decode cT_open 46 = .ok (.iload_n 1, 1) := by decide +kernel
theorem dT_open_47 : decode cT_open 47 = .ok (.iload_n 2, 1) := by decide +kernel
theorem dT_open_48 : decode cT_open 48 = .ok (.ldc 134, 2) := by decide +kernel
theorem dT_open_50 : decode cT_open 50 = .ok (.iload 4, 2) := by decide +kernel
theorem dT_open_52 : decode cT_open 52 = .ok (.imul, 1) := by decide +kernel
theorem dT_open_53 : decode cT_open 53 = .ok (.ldc 135, 2) := by decide +kernel
theorem dT_open_55 : decode cT_open 55 = .ok (.iadd, 1) := by decide +kernel
theorem dT_open_56 : decode cT_open 56 = .ok (.invokestatic 136, 3) := by decide +kernel
theorem dT_open_59 : decode cT_open 59 = .ok (.iadd, 1) := by decide +kernel
theorem dT_open_60 : decode cT_open 60 = .ok (.invokestatic 139, 3) := by decide +kernel
theorem dT_open_63 : decode cT_open 63 = .ok (.iload_n 2, 1) := by decide +kernel
theorem dT_open_64 : decode cT_open 64 = .ok (.sipush (-22554), 3) := by decide +kernel
theorem dT_open_67 : decode cT_open 67 = .ok (.iload_n 3, 1) := by decide +kernel
theorem dT_open_68 : decode cT_open 68 = .ok (.imul, 1) := by decide +kernel
theorem dT_open_69 : decode cT_open 69 = .ok (.ldc 142, 2) := by decide +kernel
theorem dT_open_71 : decode cT_open 71 = .ok (.iload 4, 2) := by decide +kernel
theorem dT_open_73 : decode cT_open 73 = .ok (.imul, 1) := by decide +kernel
theorem dT_open_74 : decode cT_open 74 = .ok (.isub, 1) := by decide +kernel
theorem dT_open_75 : decode cT_open 75 = .ok (.ldc 135, 2) := by decide +kernel
theorem dT_open_77 : decode cT_open 77 = .ok (.iadd, 1) := by decide +kernel
theorem dT_open_78 : decode cT_open 78 = .ok (.invokestatic 136, 3) := by decide +kernel
theorem dT_open_81 : decode cT_open 81 = .ok (.iadd, 1) := by decide +kernel
theorem dT_open_82 : decode cT_open 82 = .ok (.invokestatic 139, 3) := by decide +kernel
theorem dT_open_85 : decode cT_open 85 = .ok (.iload_n 2, 1) := by decide +kernel
theorem dT_open_86 : decode cT_open 86 = .ok (.ldc 143, 2) := by decide +kernel
theorem dT_open_88 : decode cT_open 88 = .ok (.iload_n 3, 1) := by decide +kernel
theorem dT_open_89 : decode cT_open 89 = .ok (.imul, 1) := by decide +kernel
theorem dT_open_90 : decode cT_open 90 = .ok (.ldc 135, 2) := by decide +kernel
theorem dT_open_92 : decode cT_open 92 = .ok (.iadd, 1) := by decide +kernel
theorem dT_open_93 : decode cT_open 93 = .ok (.invokestatic 136, 3) := by decide +kernel
theorem dT_open_96 : decode cT_open 96 = .ok (.iadd, 1) := by decide +kernel
theorem dT_open_97 : decode cT_open 97 = .ok (.invokestatic 139, 3) := by decide +kernel
theorem dT_open_100 : decode cT_open 100 = .ok (.invokevirtual 144, 3) := by decide +kernel
theorem dT_open_103 : decode cT_open 103 = .ok (.return_, 1) := by decide +kernel
theorem dT_shifted_0 : decode cT_shifted 0 = .ok (.iload_n 0, 1) := by decide +kernel
theorem dT_shifted_1 : decode cT_shifted 1 = .ok (.bipush 16, 2) := by decide +kernel
theorem dT_shifted_3 : decode cT_shifted 3 = .ok (.ishr, 1) := by decide +kernel
theorem dT_shifted_4 : decode cT_shifted 4 = .ok (.ireturn, 1) := by decide +kernel
theorem dT_limit_0 : decode cT_limit 0 = .ok (.iconst 0, 1) := by decide +kernel
theorem dT_limit_1 : decode cT_limit 1 = .ok (.sipush 255, 3) := by decide +kernel
theorem dT_limit_4 : decode cT_limit 4 = .ok (.iload_n 0, 1) := by decide +kernel
theorem dT_limit_5 : decode cT_limit 5 = .ok (.invokestatic 157, 3) := by decide +kernel
theorem dT_limit_8 : decode cT_limit 8 = .ok (.invokestatic 162, 3) := by decide +kernel
theorem dT_limit_11 : decode cT_limit 11 = .ok (.ireturn, 1) := by decide +kernel
theorem dT_setColours_0 : decode cT_setColours 0 = .ok (.aload_n 0, 1) := by decide +kernel
theorem dT_setColours_1 : decode cT_setColours 1 = .ok (.getfield 11, 3) := by decide +kernel
theorem dT_setColours_4 : decode cT_setColours 4 = .ok (.iconst 0, 1) := by decide +kernel
theorem dT_setColours_5 : decode cT_setColours 5 = .ok (.aaload, 1) := by decide +kernel
theorem dT_setColours_6 : decode cT_setColours 6 = .ok (.getfield 37, 3) := by decide +kernel
theorem dT_setColours_9 : decode cT_setColours 9 = .ok (.iload_n 1, 1) := by decide +kernel
theorem dT_setColours_10 : decode cT_setColours 10 = .ok (.iload_n 2, 1) := by decide +kernel
theorem dT_setColours_11 : decode cT_setColours 11 = .ok (.iastore, 1) := by decide +kernel
theorem dT_setColours_12 : decode cT_setColours 12 = .ok (.aload_n 0, 1) := by decide +kernel
theorem dT_setColours_13 : decode cT_setColours 13 = .ok (.getfield 11, 3) := by decide +kernel
theorem dT_setColours_16 : decode cT_setColours 16 = .ok (.iconst 1, 1) := by decide +kernel
theorem dT_setColours_17 : decode cT_setColours 17 = .ok (.aaload, 1) := by decide +kernel
theorem dT_setColours_18 : decode cT_setColours 18 = .ok (.getfield 37, 3) := by decide +kernel
theorem dT_setColours_21 : decode cT_setColours 21 = .ok (.iload_n 1, 1) := by decide +kernel
theorem dT_setColours_22 : decode cT_setColours 22 = .ok (.iload_n 3, 1) := by decide +kernel
theorem dT_setColours_23 : decode cT_setColours 23 = .ok (.iastore, 1) := by decide +kernel
theorem dT_setColours_24 : decode cT_setColours 24 = .ok (.aload_n 0, 1) := by decide +kernel
theorem dT_setColours_25 : decode cT_setColours 25 = .ok (.getfield 11, 3) := by decide +kernel
theorem dT_setColours_28 : decode cT_setColours 28 = .ok (.iconst 2, 1) := by decide +kernel
theorem dT_setColours_29 : decode cT_setColours 29 = .ok (.aaload, 1) := by decide +kernel
theorem dT_setColours_30 : decode cT_setColours 30 = .ok (.getfield 37, 3) := by decide +kernel
theorem dT_setColours_33 : decode cT_setColours 33 = .ok (.iload_n 1, 1) := by decide +kernel
theorem dT_setColours_34 : decode cT_setColours 34 = .ok (.iload 4, 2) := by decide +kernel
theorem dT_setColours_36 : decode cT_setColours 36 = .ok (.iastore, 1) := by decide +kernel
theorem dT_setColours_37 : decode cT_setColours 37 = .ok (.return_, 1) := by decide +kernel
theorem dT_close_0 : decode cT_close 0 = .ok (.aload_n 0, 1) := by decide +kernel
theorem dT_close_1 : decode cT_close 1 = .ok (.getfield 11, 3) := by decide +kernel
theorem dT_close_4 : decode cT_close 4 = .ok (.iconst 0, 1) := by decide +kernel
theorem dT_close_5 : decode cT_close 5 = .ok (.aaload, 1) := by decide +kernel
theorem dT_close_6 : decode cT_close 6 = .ok (.getfield 37, 3) := by decide +kernel
theorem dT_close_9 : decode cT_close 9 = .ok (.iload_n 1, 1) := by decide +kernel
theorem dT_close_10 : decode cT_close 10 = .ok (.iaload, 1) := by decide +kernel
theorem dT_close_11 : decode cT_close 11 = .ok (.istore_n 2, 1) := by decide +kernel
theorem dT_close_12 : decode cT_close 12 = .ok (.aload_n 0, 1) := by decide +kernel
theorem dT_close_13 : decode cT_close 13 = .ok (.getfield 11, 3) := by decide +kernel
theorem dT_close_16 : decode cT_close 16 = .ok (.iconst 1, 1) := by decide +kernel
theorem dT_close_17 : decode cT_close 17 = .ok (.aaload, 1) := by decide +kernel
theorem dT_close_18 : decode cT_close 18 = .ok (.getfield 37, 3) := by decide +kernel
theorem dT_close_21 : decode cT_close 21 = .ok (.iload_n 1, 1) := by decide +kernel
theorem dT_close_22 : decode cT_close 22 = .ok (.iaload, 1) := by decide +kernel
theorem dT_close_23 : decode cT_close 23 = .ok (.istore_n 3, 1) := by decide +kernel
theorem dT_close_24 : decode cT_close 24 = .ok (.aload_n 0, 1) := by decide +kernel
theorem dT_close_25 : decode cT_close 25 = .ok (.getfield 11, 3) := by decide +kernel
theorem dT_close_28 : decode cT_close 28 = .ok (.iconst 2, 1) := by decide +kernel
theorem dT_close_29 : decode cT_close 29 = .ok (.aaload, 1) := by decide +kernel
theorem dT_close_30 : decode cT_close 30 = .ok (.getfield 37, 3) := by decide +kernel
theorem dT_close_33 : decode cT_close 33 = .ok (.iload_n 1, 1) := by decide +kernel
theorem dT_close_34 : decode cT_close 34 = .ok (.iaload, 1) := by decide +kernel
theorem dT_close_35 : decode cT_close 35 = .ok (.istore 4, 2) := by decide +kernel
theorem dT_close_37 : decode cT_close 37 = .ok (.aload_n 0, 1) := by decide +kernel
theorem dT_close_38 : decode cT_close 38 = .ok (.iload_n 1, 1) := by decide +kernel
theorem dT_close_39 : decode cT_close 39 = .ok (.iload_n 2, 1) := by decide +kernel
theorem dT_close_40 : decode cT_close 40 = .ok (.iload_n 3, 1) := by decide +kernel
theorem dT_close_41 : decode cT_close 41 = .ok (.iload 4, 2) := by decide +kernel
theorem dT_close_43 : decode cT_close 43 = .ok (.invokestatic 148, 3) := by decide +kernel
theorem dT_close_46 : decode cT_close 46 = .ok (.sipush (-11059), 3) := by decide +kernel
theorem dT_close_49 : decode cT_close 49 = .ok (.iload_n 2, 1) := by decide +kernel
theorem dT_close_50 : decode cT_close 50 = .ok (.imul, 1) := by decide +kernel
theorem dT_close_51 : decode cT_close 51 = .ok (.sipush 21709, 3) := by decide +kernel
theorem dT_close_54 : decode cT_close 54 = .ok (.iload_n 3, 1) := by decide +kernel
theorem dT_close_55 : decode cT_close 55 = .ok (.imul, 1) := by decide +kernel
theorem dT_close_56 : decode cT_close 56 = .ok (.isub, 1) := by decide +kernel
theorem dT_close_57 : decode cT_close 57 = .ok (.ldc 135, 2) := by decide +kernel
theorem dT_close_59 : decode cT_close 59 = .ok (.iload 4, 2) := by decide +kernel
theorem dT_close_61 : decode cT_close 61 = .ok (.imul, 1) := by decide +kernel
theorem dT_close_62 : decode cT_close 62 = .ok (.iadd, 1) := by decide +kernel
theorem dT_close_63 : decode cT_close 63 = .ok (.ldc 152, 2) := by decide +kernel
theorem dT_close_65 : decode cT_close 65 = .ok (.iadd, 1) := by decide +kernel
theorem dT_close_66 : decode cT_close 66 = .ok (.invokestatic 136, 3) := by decide +kernel
theorem dT_close_69 : decode cT_close 69 = .ok (.ldc 135, 2) := by decide +kernel
theorem dT_close_71 : decode cT_close 71 = .ok (.iload_n 2, 1) := by decide +kernel
theorem dT_close_72 : decode cT_close 72 = .ok (.imul, 1) := by decide +kernel
theorem dT_close_73 : decode cT_close 73 = .ok (.sipush 27439, 3) := by decide +kernel
theorem dT_close_76 : decode cT_close 76 = .ok (.iload_n 3, 1) := by decide +kernel
theorem dT_close_77 : decode cT_close 77 = .ok (.imul, 1) := by decide +kernel
theorem dT_close_78 : decode cT_close 78 = .ok (.isub, 1) := by decide +kernel
theorem dT_close_79 : decode cT_close 79 = .ok (.sipush 5329, 3) := by decide +kernel
theorem dT_close_82 : decode cT_close 82 = .ok (.iload 4, 2) := by decide +kernel
theorem dT_close_84 : decode cT_close 84 = .ok (.imul, 1) := by decide +kernel
theorem dT_close_85 : decode cT_close 85 = .ok (.isub, 1) := by decide +kernel
theorem dT_close_86 : decode cT_close 86 = .ok (.ldc 152, 2) := by decide +kernel
theorem dT_close_88 : decode cT_close 88 = .ok (.iadd, 1) := by decide +kernel
theorem dT_close_89 : decode cT_close 89 = .ok (.invokestatic 136, 3) := by decide +kernel
theorem dT_close_92 : decode cT_close 92 = .ok (.invokevirtual 144, 3) := by decide +kernel
theorem dT_close_95 : decode cT_close 95 = .ok (.return_, 1) := by decide +kernel
theorem dT_brightness_0 : decode cT_brightness 0 = .ok (.sipush 19595, 3) := by decide +kernel
theorem dT_brightness_3 : decode cT_brightness 3 = .ok (.iload_n 0, 1) := by decide +kernel
theorem dT_brightness_4 : decode cT_brightness 4 = .ok (.imul, 1) := by decide +kernel
theorem dT_brightness_5 : decode cT_brightness 5 = .ok (.ldc 156, 2) := by decide +kernel
theorem dT_brightness_7 : decode cT_brightness 7 = .ok (.iload_n 1, 1) := by decide +kernel
theorem dT_brightness_8 : decode cT_brightness 8 = .ok (.imul, 1) := by decide +kernel
theorem dT_brightness_9 : decode cT_brightness 9 = .ok (.iadd, 1) := by decide +kernel
theorem dT_brightness_10 : decode cT_brightness 10 = .ok (.sipush 7471, 3) := by decide +kernel
theorem dT_brightness_13 : decode cT_brightness 13 = .ok (.iload_n 2, 1) := by decide +kernel
theorem dT_brightness_14 : decode cT_brightness 14 = .ok (.imul, 1) := by decide +kernel
theorem dT_brightness_15 : decode cT_brightness 15 = .ok (.iadd, 1) := by decide +kernel
theorem dT_brightness_16 : decode cT_brightness 16 = .ok (.ldc 135, 2) := by decide +kernel
theorem dT_brightness_18 : decode cT_brightness 18 = .ok (.iadd, 1) := by decide +kernel
theorem dT_brightness_19 : decode cT_brightness 19 = .ok (.invokestatic 136, 3) := by decide +kernel
theorem dT_brightness_22 : decode cT_brightness 22 = .ok (.ireturn, 1) := by decide +kernel
theorem dT_invert_0 : decode cT_invert 0 = .ok (.aload_n 0, 1) := by decide +kernel
theorem dT_invert_1 : decode cT_invert 1 = .ok (.iload_n 1, 1) := by decide +kernel
theorem dT_invert_2 : decode cT_invert 2 = .ok (.sipush 255, 3) := by decide +kernel
theorem dT_invert_5 : decode cT_invert 5 = .ok (.aload_n 0, 1) := by decide +kernel
theorem dT_invert_6 : decode cT_invert 6 = .ok (.getfield 11, 3) := by decide +kernel
theorem dT_invert_9 : decode cT_invert 9 = .ok (.iconst 0, 1) := by decide +kernel
theorem dT_invert_10 : decode cT_invert 10 = .ok (.aaload, 1) := by decide +kernel
theorem dT_invert_11 : decode cT_invert 11 = .ok (.getfield 37, 3) := by decide +kernel
theorem dT_invert_14 : decode cT_invert 14 = .ok (.iload_n 1, 1) := by decide +kernel
theorem dT_invert_15 : decode cT_invert 15 = .ok (.iaload, 1) := by decide +kernel
theorem dT_invert_16 : decode cT_invert 16 = .ok (.isub, 1) := by decide +kernel
theorem dT_invert_17 : decode cT_invert 17 = .ok (.sipush 255, 3) := by decide +kernel
theorem dT_invert_20 : decode cT_invert 20 = .ok (.aload_n 0, 1) := by decide +kernel
theorem dT_invert_21 : decode cT_invert 21 = .ok (.getfield 11, 3) := by decide +kernel
theorem dT_invert_24 : decode cT_invert 24 = .ok (.iconst 1, 1) := by decide +kernel
theorem dT_invert_25 : decode cT_invert 25 = .ok (.aaload, 1) := by decide +kernel
theorem dT_invert_26 : decode cT_invert 26 = .ok (.getfield 37, 3) := by decide +kernel
theorem dT_invert_29 : decode cT_invert 29 = .ok (.iload_n 1, 1) := by decide +kernel
theorem dT_invert_30 : decode cT_invert 30 = .ok (.iaload, 1) := by decide +kernel
theorem dT_invert_31 : decode cT_invert 31 = .ok (.isub, 1) := by decide +kernel
theorem dT_invert_32 : decode cT_invert 32 = .ok (.sipush 255, 3) := by decide +kernel
theorem dT_invert_35 : decode cT_invert 35 = .ok (.aload_n 0, 1) := by decide +kernel
theorem dT_invert_36 : decode cT_invert 36 = .ok (.getfield 11, 3) := by decide +kernel
theorem dT_invert_39 : decode cT_invert 39 = .ok (.iconst 2, 1) := by decide +kernel
theorem dT_invert_40 : decode cT_invert 40 = .ok (.aaload, 1) := by decide +kernel
theorem dT_invert_41 : decode cT_invert 41 = .ok (.getfield 37, 3) := by decide +kernel
theorem dT_invert_44 : decode cT_invert 44 = .ok (.iload_n 1, 1) := by decide +kernel
theorem dT_invert_45 : decode cT_invert 45 = .ok (.iaload, 1) := by decide +kernel
theorem dT_invert_46 : decode cT_invert 46 = .ok (.isub, 1) := by decide +kernel
theorem dT_invert_47 : decode cT_invert 47 = .ok (.invokevirtual 144, 3) := by decide +kernel
theorem dT_invert_50 : decode cT_invert 50 = .ok (.return_, 1) := by decide +kernel
theorem dT_darken_0 : decode cT_darken 0 = .ok (.sipush 255, 3) := by decide +kernel
theorem dT_darken_3 : decode cT_darken 3 = .ok (.aload_n 0, 1) := by decide +kernel
theorem dT_darken_4 : decode cT_darken 4 = .ok (.getfield 11, 3) := by decide +kernel
theorem dT_darken_7 : decode cT_darken 7 = .ok (.iconst 3, 1) := by decide +kernel
theorem dT_darken_8 : decode cT_darken 8 = .ok (.aaload, 1) := by decide +kernel
theorem dT_darken_9 : decode cT_darken 9 = .ok (.getfield 37, 3) := by decide +kernel
theorem dT_darken_12 : decode cT_darken 12 = .ok (.iload_n 1, 1) := by decide +kernel
theorem dT_darken_13 : decode cT_darken 13 = .ok (.iaload, 1) := by decide +kernel
theorem dT_darken_14 : decode cT_darken 14 = .ok (.isub, 1) := by decide +kernel
theorem dT_darken_15 : decode cT_darken 15 = .ok (.istore_n 2, 1) := by decide +kernel
theorem dT_darken_16 : decode cT_darken 16 = .ok (.aload_n 0, 1) := by decide +kernel
theorem dT_darken_17 : decode cT_darken 17 = .ok (.iload_n 1, 1) := by decide +kernel
theorem dT_darken_18 : decode cT_darken 18 = .ok (.aload_n 0, 1) := by decide +kernel
theorem dT_darken_19 : decode cT_darken 19 = .ok (.getfield 11, 3) := by decide +kernel
theorem dT_darken_22 : decode cT_darken 22 = .ok (.iconst 0, 1) := by decide +kernel
theorem dT_darken_23 : decode cT_darken 23 = .ok (.aaload, 1) := by decide +kernel
theorem dT_darken_24 : decode cT_darken 24 = .ok (.getfield 37, 3) := by decide +kernel
theorem dT_darken_27 : decode cT_darken 27 = .ok (.iload_n 1, 1) := by decide +kernel
theorem dT_darken_28 : decode cT_darken 28 = .ok (.iaload, 1) := by decide +kernel
theorem dT_darken_29 : decode cT_darken 29 = .ok (.iload_n 2, 1) := by decide +kernel
theorem dT_darken_30 : decode cT_darken 30 = .ok (.invokestatic 153, 3) := by decide +kernel
theorem dT_darken_33 : decode cT_darken 33 = .ok (.aload_n 0, 1) := by decide +kernel
theorem dT_darken_34 : decode cT_darken 34 = .ok (.getfield 11, 3) := by decide +kernel
theorem dT_darken_37 : decode cT_darken 37 = .ok (.iconst 1, 1) := by decide +kernel
theorem dT_darken_38 : decode cT_darken 38 = .ok (.aaload, 1) := by decide +kernel
theorem dT_darken_39 : decode cT_darken 39 = .ok (.getfield 37, 3) := by decide +kernel
theorem dT_darken_42 : decode cT_darken 42 = .ok (.iload_n 1, 1) := by decide +kernel
theorem dT_darken_43 : decode cT_darken 43 = .ok (.iaload, 1) := by decide +kernel
theorem dT_darken_44 : decode cT_darken 44 = .ok (.iload_n 2, 1) := by decide +kernel
theorem dT_darken_45 : decode cT_darken 45 = .ok (.invokestatic 153, 3) := by decide +kernel
theorem dT_darken_48 : decode cT_darken 48 = .ok (.aload_n 0, 1) := by decide +kernel
theorem dT_darken_49 : decode cT_darken 49 = .ok (.getfield 11, 3) := by decide +kernel
theorem dT_darken_52 : decode cT_darken 52 = .ok (.iconst 2, 1) := by decide +kernel
theorem dT_darken_53 : decode cT_darken 53 = .ok (.aaload, 1) := by decide +kernel
theorem dT_darken_54 : decode cT_darken 54 = .ok (.getfield 37, 3) := by decide +kernel
theorem dT_darken_57 : decode cT_darken 57 = .ok (.iload_n 1, 1) := by decide +kernel
theorem dT_darken_58 : decode cT_darken 58 = .ok (.iaload, 1) := by decide +kernel
theorem dT_darken_59 : decode cT_darken 59 = .ok (.iload_n 2, 1) := by decide +kernel
theorem dT_darken_60 : decode cT_darken 60 = .ok (.invokestatic 153, 3) := by decide +kernel
theorem dT_darken_63 : decode cT_darken 63 = .ok (.invokevirtual 144, 3) := by decide +kernel
theorem dT_darken_66 : decode cT_darken 66 = .ok (.return_, 1) := by decide +kernel
theorem dT_darkened_0 : decode cT_darkened 0 = .ok (.iload_n 0, 1) := by decide +kernel
theorem dT_darkened_1 : decode cT_darkened 1 = .ok (.iload_n 1, 1) := by decide +kernel
theorem dT_darkened_2 : decode cT_darkened 2 = .ok (.imul, 1) := by decide +kernel
theorem dT_darkened_3 : decode cT_darkened 3 = .ok (.bipush 127, 2) := by decide +kernel
theorem dT_darkened_5 : decode cT_darkened 5 = .ok (.iadd, 1) := by decide +kernel
theorem dT_darkened_6 : decode cT_darkened 6 = .ok (.sipush 255, 3) := by decide +kernel
theorem dT_darkened_9 : decode cT_darkened 9 = .ok (.idiv, 1) := by decide +kernel
theorem dT_darkened_10 : decode cT_darkened 10 = .ok (.ireturn, 1) := by decide +kernel
theorem dT_grey_0 : decode cT_grey 0 = .ok (.aload_n 0, 1) := by decide +kernel
theorem dT_grey_1 : decode cT_grey 1 = .ok (.getfield 11, 3) := by decide +kernel
theorem dT_grey_4 : decode cT_grey 4 = .ok (.iconst 0, 1) := by decide +kernel
theorem dT_grey_5 : decode cT_grey 5 = .ok (.aaload, 1) := by decide +kernel
theorem dT_grey_6 : decode cT_grey 6 = .ok (.getfield 37, 3) := by decide +kernel
theorem dT_grey_9 : decode cT_grey 9 = .ok (.iload_n 1, 1) := by decide +kernel
theorem dT_grey_10 : decode cT_grey 10 = .ok (.iaload, 1) := by decide +kernel
theorem dT_grey_11 : decode cT_grey 11 = .ok (.aload_n 0, 1) := by decide +kernel
theorem dT_grey_12 : decode cT_grey 12 = .ok (.getfield 11, 3) := by decide +kernel
theorem dT_grey_15 : decode cT_grey 15 = .ok (.iconst 1, 1) := by decide +kernel
theorem dT_grey_16 : decode cT_grey 16 = .ok (.aaload, 1) := by decide +kernel
theorem dT_grey_17 : decode cT_grey 17 = .ok (.getfield 37, 3) := by decide +kernel
theorem dT_grey_20 : decode cT_grey 20 = .ok (.iload_n 1, 1) := by decide +kernel
theorem dT_grey_21 : decode cT_grey 21 = .ok (.iaload, 1) := by decide +kernel
theorem dT_grey_22 : decode cT_grey 22 = .ok (.aload_n 0, 1) := by decide +kernel
theorem dT_grey_23 : decode cT_grey 23 = .ok (.getfield 11, 3) := by decide +kernel
theorem dT_grey_26 : decode cT_grey 26 = .ok (.iconst 2, 1) := by decide +kernel
theorem dT_grey_27 : decode cT_grey 27 = .ok (.aaload, 1) := by decide +kernel
theorem dT_grey_28 : decode cT_grey 28 = .ok (.getfield 37, 3) := by decide +kernel
theorem dT_grey_31 : decode cT_grey 31 = .ok (.iload_n 1, 1) := by decide +kernel
theorem dT_grey_32 : decode cT_grey 32 = .ok (.iaload, 1) := by decide +kernel
theorem dT_grey_33 : decode cT_grey 33 = .ok (.invokestatic 148, 3) := by decide +kernel
theorem dT_grey_36 : decode cT_grey 36 = .ok (.istore_n 2, 1) := by decide +kernel
theorem dT_grey_37 : decode cT_grey 37 = .ok (.aload_n 0, 1) := by decide +kernel
theorem dT_grey_38 : decode cT_grey 38 = .ok (.iload_n 1, 1) := by decide +kernel
theorem dT_grey_39 : decode cT_grey 39 = .ok (.iload_n 2, 1) := by decide +kernel
theorem dT_grey_40 : decode cT_grey 40 = .ok (.iload_n 2, 1) := by decide +kernel
theorem dT_grey_41 : decode cT_grey 41 = .ok (.iload_n 2, 1) := by decide +kernel
theorem dT_grey_42 : decode cT_grey 42 = .ok (.invokevirtual 144, 3) := by decide +kernel
theorem dT_grey_45 : decode cT_grey 45 = .ok (.return_, 1) := by decide +kernel
theorem dT_size_0 : decode cT_size 0 = .ok (.aload_n 0, 1) := by decide +kernel
theorem dT_size_1 : decode cT_size 1 = .ok (.iload_n 1, 1) := by decide +kernel
theorem dT_size_2 : decode cT_size 2 = .ok (.invokevirtual 16, 3) := by decide +kernel
theorem dT_size_5 : decode cT_size 5 = .ok (.astore 4, 2) := by decide +kernel
theorem dT_size_7 : decode cT_size 7 = .ok (.iload_n 2, 1) := by decide +kernel
theorem dT_size_8 : decode cT_size 8 = .ok (.iconst 1, 1) := by decide +kernel
theorem dT_size_9 : decode cT_size 9 = .ok (.if_icmp .lt 20, 3) := by decide +kernel
theorem dT_size_12 : decode cT_size 12 = .ok (.iload_n 2, 1) := by decide +kernel
theorem dT_size_13 : decode cT_size 13 = .ok (.bipush 32, 2) := by decide +kernel
theorem dT_size_15 : decode cT_size 15 = .ok (.if_icmp .gt 14, 3) := by decide +kernel
theorem dT_size_18 : decode cT_size 18 = .ok (.iload_n 3, 1) := by decide +kernel
theorem dT_size_19 : decode cT_size 19 = .ok (.iconst 1, 1) := by decide +kernel
theorem dT_size_20 : decode cT_size 20 = .ok (.if_icmp .lt 9, 3) := by decide +kernel
theorem dT_size_23 : decode cT_size 23 = .ok (.iload_n 3, 1) := by decide +kernel
theorem dT_size_24 : decode cT_size 24 = .ok (.bipush 32, 2) := by decide +kernel
theorem dT_size_26 : decode cT_size 26 = .ok (.if_icmp .le 13, 3) := by decide +kernel
theorem dT_size_29 : decode cT_size 29 = .ok (.new 20, 3) := by decide +kernel
theorem dT_size_32 : decode cT_size 32 = .ok (.dup, 1) := by decide +kernel
theorem dT_size_33 : decode cT_size 33 = .ok (.ldc 22, 2) := by decide +kernel
theorem dT_size_35 : decode cT_size 35 = .ok (.invokespecial 24, 3) := by decide +kernel
theorem dT_size_38 : decode cT_size 38 = .ok (.athrow, 1) := by decide +kernel
theorem dT_size_39 : decode cT_size 39 = .ok (.aload 4, 2) := by decide +kernel
theorem dT_size_41 : decode cT_size 41 = .ok (.iload_n 2, 1) := by decide +kernel
theorem dT_size_42 : decode cT_size 42 = .ok (.iload_n 3, 1) := by decide +kernel
theorem dT_size_43 : decode cT_size 43 = .ok (.invokevirtual 27, 3) := by decide +kernel
theorem dT_size_46 : decode cT_size 46 = .ok (.return_, 1) := by decide +kernel
theorem dT_planeOf_0 : decode cT_planeOf 0 = .ok (.iload_n 1, 1) := by decide +kernel
theorem dT_planeOf_1 : decode cT_planeOf 1 = .ok (.ifCond .lt 8, 3) := by decide +kernel
theorem dT_planeOf_4 : decode cT_planeOf 4 = .ok (.iload_n 1, 1) := by decide +kernel
theorem dT_planeOf_5 : decode cT_planeOf 5 = .ok (.iconst 4, 1) := by decide +kernel
theorem dT_planeOf_6 : decode cT_planeOf 6 = .ok (.if_icmp .lt 13, 3) := by decide +kernel
theorem dT_planeOf_9 : decode cT_planeOf 9 = .ok (.new 112, 3) := by decide +kernel
theorem dT_planeOf_12 : decode cT_planeOf 12 = .ok (.dup, 1) := by decide +kernel
theorem dT_planeOf_13 : decode cT_planeOf 13 = .ok (.ldc 114, 2) := by decide +kernel
theorem dT_planeOf_15 : decode cT_planeOf 15 = .ok (.invokespecial 116, 3) := by decide +kernel
theorem dT_planeOf_18 : decode cT_planeOf 18 = .ok (.athrow, 1) := by decide +kernel
theorem dT_planeOf_19 : decode cT_planeOf 19 = .ok (.aload_n 0, 1) := by decide +kernel
theorem dT_planeOf_20 : decode cT_planeOf 20 = .ok (.getfield 11, 3) := by decide +kernel
theorem dT_planeOf_23 : decode cT_planeOf 23 = .ok (.iload_n 1, 1) := by decide +kernel
theorem dT_planeOf_24 : decode cT_planeOf 24 = .ok (.aaload, 1) := by decide +kernel
theorem dT_planeOf_25 : decode cT_planeOf 25 = .ok (.areturn, 1) := by decide +kernel
theorem dT_put_0 : decode cT_put 0 = .ok (.aload_n 0, 1) := by decide +kernel
theorem dT_put_1 : decode cT_put 1 = .ok (.iload_n 1, 1) := by decide +kernel
theorem dT_put_2 : decode cT_put 2 = .ok (.iload_n 2, 1) := by decide +kernel
theorem dT_put_3 : decode cT_put 3 = .ok (.iload_n 3, 1) := by decide +kernel
theorem dT_put_4 : decode cT_put 4 = .ok (.invokevirtual 31, 3) := by decide +kernel
theorem dT_put_7 : decode cT_put 7 = .ok (.astore 5, 2) := by decide +kernel
theorem dT_put_9 : decode cT_put 9 = .ok (.iload 4, 2) := by decide +kernel
theorem dT_put_11 : decode cT_put 11 = .ok (.ifCond .lt 11, 3) := by decide +kernel
theorem dT_put_14 : decode cT_put 14 = .ok (.iload 4, 2) := by decide +kernel
theorem dT_put_16 : decode cT_put 16 = .ok (.sipush 255, 3) := by decide +kernel
theorem dT_put_19 : decode cT_put 19 = .ok (.if_icmp .le 13, 3) := by decide +kernel
theorem dT_put_22 : decode cT_put 22 = .ok (.new 20, 3) := by decide +kernel
theorem dT_put_25 : decode cT_put 25 = .ok (.dup, 1) := by decide +kernel
theorem dT_put_26 : decode cT_put 26 = .ok (.ldc 35, 2) := by decide +kernel
theorem dT_put_28 : decode cT_put 28 = .ok (.invokespecial 24, 3) := by decide +kernel
theorem dT_put_31 : decode cT_put 31 = .ok (.athrow, 1) := by decide +kernel
theorem dT_put_32 : decode cT_put 32 = .ok (.aload 5, 2) := by decide +kernel
theorem dT_put_34 : decode cT_put 34 = .ok (.getfield 37, 3) := by decide +kernel
theorem dT_put_37 : decode cT_put 37 = .ok (.iload_n 2, 1) := by decide +kernel
theorem dT_put_38 : decode cT_put 38 = .ok (.iload_n 3, 1) := by decide +kernel
theorem dT_put_39 : decode cT_put 39 = .ok (.invokestatic 41, 3) := by decide +kernel
theorem dT_put_42 : decode cT_put 42 = .ok (.iload 4, 2) := by decide +kernel
theorem dT_put_44 : decode cT_put 44 = .ok (.iastore, 1) := by decide +kernel
theorem dT_put_45 : decode cT_put 45 = .ok (.return_, 1) := by decide +kernel
theorem dT_planeWith_0 : decode cT_planeWith 0 = .ok (.aload_n 0, 1) := by decide +kernel
theorem dT_planeWith_1 : decode cT_planeWith 1 = .ok (.iload_n 1, 1) := by decide +kernel
theorem dT_planeWith_2 : decode cT_planeWith 2 = .ok (.invokevirtual 16, 3) := by decide +kernel
theorem dT_planeWith_5 : decode cT_planeWith 5 = .ok (.astore 4, 2) := by decide +kernel
theorem dT_planeWith_7 : decode cT_planeWith 7 = .ok (.aload 4, 2) := by decide +kernel
theorem dT_planeWith_9 : decode cT_planeWith 9 = .ok (.iload_n 2, 1) := by decide +kernel
theorem dT_planeWith_10 : decode cT_planeWith 10 = .ok (.iload_n 3, 1) := by decide +kernel
theorem dT_planeWith_11 : decode cT_planeWith 11 = .ok (.invokevirtual 90, 3) := by decide +kernel
theorem dT_planeWith_14 : decode cT_planeWith 14 = .ok (.ifCond .ne 13, 3) := by decide +kernel
theorem dT_planeWith_17 : decode cT_planeWith 17 = .ok (.new 112, 3) := by decide +kernel
theorem dT_planeWith_20 : decode cT_planeWith 20 = .ok (.dup, 1) := by decide +kernel
theorem dT_planeWith_21 : decode cT_planeWith 21 = .ok (.ldc 117, 2) := by decide +kernel
theorem dT_planeWith_23 : decode cT_planeWith 23 = .ok (.invokespecial 116, 3) := by decide +kernel
theorem dT_planeWith_26 : decode cT_planeWith 26 = .ok (.athrow, 1) := by decide +kernel
theorem dT_planeWith_27 : decode cT_planeWith 27 = .ok (.aload 4, 2) := by decide +kernel
theorem dT_planeWith_29 : decode cT_planeWith 29 = .ok (.areturn, 1) := by decide +kernel
theorem dT_row_0 : decode cT_row 0 = .ok (.aload_n 0, 1) := by decide +kernel
theorem dT_row_1 : decode cT_row 1 = .ok (.iload_n 1, 1) := by decide +kernel
theorem dT_row_2 : decode cT_row 2 = .ok (.iload_n 2, 1) := by decide +kernel
theorem dT_row_3 : decode cT_row 3 = .ok (.iload_n 3, 1) := by decide +kernel
theorem dT_row_4 : decode cT_row 4 = .ok (.invokevirtual 31, 3) := by decide +kernel
theorem dT_row_7 : decode cT_row 7 = .ok (.astore 6, 2) := by decide +kernel
theorem dT_row_9 : decode cT_row 9 = .ok (.iconst 0, 1) := by decide +kernel
theorem dT_row_10 : decode cT_row 10 = .ok (.istore 7, 2) := by decide +kernel
theorem dT_row_12 : decode cT_row 12 = .ok (.iload 7, 2) := by decide +kernel
theorem dT_row_14 : decode cT_row 14 = .ok (.bipush 8, 2) := by decide +kernel
theorem dT_row_16 : decode cT_row 16 = .ok (.if_icmp .ge 48, 3) := by decide +kernel
theorem dT_row_19 : decode cT_row 19 = .ok (.iload_n 2, 1) := by decide +kernel
theorem dT_row_20 : decode cT_row 20 = .ok (.iload 7, 2) := by decide +kernel
theorem dT_row_22 : decode cT_row 22 = .ok (.iadd, 1) := by decide +kernel
theorem dT_row_23 : decode cT_row 23 = .ok (.aload 6, 2) := by decide +kernel
theorem dT_row_25 : decode cT_row 25 = .ok (.getfield 45, 3) := by decide +kernel
theorem dT_row_28 : decode cT_row 28 = .ok (.if_icmp .ge 36, 3) := by decide +kernel
theorem dT_row_31 : decode cT_row 31 = .ok (.aload 6, 2) := by decide +kernel
theorem dT_row_33 : decode cT_row 33 = .ok (.getfield 37, 3) := by decide +kernel
theorem dT_row_36 : decode cT_row 36 = .ok (.iload_n 2, 1) := by decide +kernel
theorem dT_row_37 : decode cT_row 37 = .ok (.iload 7, 2) := by decide +kernel
theorem dT_row_39 : decode cT_row 39 = .ok (.iadd, 1) := by decide +kernel
theorem dT_row_40 : decode cT_row 40 = .ok (.iload_n 3, 1) := by decide +kernel
theorem dT_row_41 : decode cT_row 41 = .ok (.invokestatic 41, 3) := by decide +kernel
theorem dT_row_44 : decode cT_row 44 = .ok (.lload 4, 2) := by decide +kernel
theorem dT_row_46 : decode cT_row 46 = .ok (.iload 7, 2) := by decide +kernel
theorem dT_row_48 : decode cT_row 48 = .ok (.invokestatic 49, 3) := by decide +kernel
theorem dT_row_51 : decode cT_row 51 = .ok (.lushr, 1) := by decide +kernel
theorem dT_row_52 : decode cT_row 52 = .ok (.l2i, 1) := by decide +kernel
theorem dT_row_53 : decode cT_row 53 = .ok (.sipush 255, 3) := by decide +kernel
theorem dT_row_56 : decode cT_row 56 = .ok (.iand, 1) := by decide +kernel
theorem dT_row_57 : decode cT_row 57 = .ok (.iastore, 1) := by decide +kernel
theorem dT_row_58 : decode cT_row 58 = .ok (.iinc 7 1, 3) := by decide +kernel
theorem dT_row_61 : decode cT_row 61 = .ok (.goto (-49), 3) := by decide +kernel
theorem dT_row_64 : decode cT_row 64 = .ok (.return_, 1) := by decide +kernel
theorem dT_shiftOfByte_0 : decode cT_shiftOfByte 0 = .ok (.bipush 8, 2) := by decide +kernel
theorem dT_shiftOfByte_2 : decode cT_shiftOfByte 2 = .ok (.bipush 7, 2) := by decide +kernel
theorem dT_shiftOfByte_4 : decode cT_shiftOfByte 4 = .ok (.iload_n 0, 1) := by decide +kernel
theorem dT_shiftOfByte_5 : decode cT_shiftOfByte 5 = .ok (.isub, 1) := by decide +kernel
theorem dT_shiftOfByte_6 : decode cT_shiftOfByte 6 = .ok (.imul, 1) := by decide +kernel
theorem dT_shiftOfByte_7 : decode cT_shiftOfByte 7 = .ok (.ireturn, 1) := by decide +kernel
theorem dT_grow_0 : decode cT_grow 0 = .ok (.aload_n 0, 1) := by decide +kernel
theorem dT_grow_1 : decode cT_grow 1 = .ok (.iload_n 1, 1) := by decide +kernel
theorem dT_grow_2 : decode cT_grow 2 = .ok (.invokevirtual 16, 3) := by decide +kernel
theorem dT_grow_5 : decode cT_grow 5 = .ok (.astore_n 3, 1) := by decide +kernel
theorem dT_grow_6 : decode cT_grow 6 = .ok (.iload_n 2, 1) := by decide +kernel
theorem dT_grow_7 : decode cT_grow 7 = .ok (.ifCond .lt 8, 3) := by decide +kernel
theorem dT_grow_10 : decode cT_grow 10 = .ok (.iload_n 2, 1) := by decide +kernel
theorem dT_grow_11 : decode cT_grow 11 = .ok (.iconst 5, 1) := by decide +kernel
theorem dT_grow_12 : decode cT_grow 12 = .ok (.if_icmp .le 5, 3) := by decide +kernel
theorem dT_grow_15 : decode cT_grow 15 = .ok (.iconst 0, 1) := by decide +kernel
theorem dT_grow_16 : decode cT_grow 16 = .ok (.ireturn, 1) := by decide +kernel
theorem dT_grow_17 : decode cT_grow 17 = .ok (.iload_n 2, 1) := by decide +kernel
theorem dT_grow_18 : decode cT_grow 18 = .ok (.iconst 2, 1) := by decide +kernel
theorem dT_grow_19 : decode cT_grow 19 = .ok (.if_icmp .lt 8, 3) := by decide +kernel
theorem dT_grow_22 : decode cT_grow 22 = .ok (.iload_n 2, 1) := by decide +kernel
theorem dT_grow_23 : decode cT_grow 23 = .ok (.iconst 3, 1) := by decide +kernel
theorem dT_grow_24 : decode cT_grow 24 = .ok (.if_icmp .le 7, 3) := by decide +kernel
theorem dT_grow_27 : decode cT_grow 27 = .ok (.iconst 1, 1) := by decide +kernel
theorem dT_grow_28 : decode cT_grow 28 = .ok (.goto 4, 3) := by decide +kernel
theorem dT_grow_31 : decode cT_grow 31 = .ok (.iconst 0, 1) := by decide +kernel
theorem dT_grow_32 : decode cT_grow 32 = .ok (.istore 4, 2) := by decide +kernel
theorem dT_grow_34 : decode cT_grow 34 = .ok (.iload_n 2, 1) := by decide +kernel
theorem dT_grow_35 : decode cT_grow 35 = .ok (.iconst 1, 1) := by decide +kernel
theorem dT_grow_36 : decode cT_grow 36 = .ok (.if_icmp .le 7, 3) := by decide +kernel
theorem dT_grow_39 : decode cT_grow 39 = .ok (.iconst 1, 1) := by decide +kernel
theorem dT_grow_40 : decode cT_grow 40 = .ok (.goto 4, 3) := by decide +kernel
theorem dT_grow_43 : decode cT_grow 43 = .ok (.iconst 0, 1) := by decide +kernel
theorem dT_grow_44 : decode cT_grow 44 = .ok (.istore 5, 2) := by decide +kernel
theorem dT_grow_46 : decode cT_grow 46 = .ok (.iload 4, 2) := by decide +kernel
theorem dT_grow_48 : decode cT_grow 48 = .ok (.ifCond .eq 14, 3) := by decide +kernel
theorem dT_grow_51 : decode cT_grow 51 = .ok (.iconst 2, 1) := by decide +kernel
theorem dT_grow_52 : decode cT_grow 52 = .ok (.aload_n 3, 1) := by decide +kernel
theorem dT_grow_53 : decode cT_grow 53 = .ok (.getfield 45, 3) := by decide +kernel
theorem dT_grow_56 : decode cT_grow 56 = .ok (.imul, 1) := by decide +kernel
theorem dT_grow_57 : decode cT_grow 57 = .ok (.bipush 32, 2) := by decide +kernel
theorem dT_grow_59 : decode cT_grow 59 = .ok (.if_icmp .gt 19, 3) := by decide +kernel
theorem dT_grow_62 : decode cT_grow 62 = .ok (.iload 5, 2) := by decide +kernel
theorem dT_grow_64 : decode cT_grow 64 = .ok (.ifCond .eq 16, 3) := by decide +kernel
theorem dT_grow_67 : decode cT_grow 67 = .ok (.iconst 2, 1) := by decide +kernel
theorem dT_grow_68 : decode cT_grow 68 = .ok (.aload_n 3, 1) := by decide +kernel
theorem dT_grow_69 : decode cT_grow 69 = .ok (.getfield 53, 3) := by decide +kernel
theorem dT_grow_72 : decode cT_grow 72 = .ok (.imul, 1) := by decide +kernel
theorem dT_grow_73 : decode cT_grow 73 = .ok (.bipush 32, 2) := by decide +kernel
theorem dT_grow_75 : decode cT_grow 75 = .ok (.if_icmp .le 5, 3) := by decide +kernel
theorem dT_grow_78 : decode cT_grow 78 = .ok (.iconst 0, 1) := by decide +kernel
theorem dT_grow_79 : decode cT_grow 79 = .ok (.ireturn, 1) := by decide +kernel
theorem dT_grow_80 : decode cT_grow 80 = .ok (.iload_n 2, 1) := by decide +kernel
theorem dT_grow_81 : decode cT_grow 81 = .ok (.iconst 2, 1) := by decide +kernel
theorem dT_grow_82 : decode cT_grow 82 = .ok (.irem, 1) := by decide +kernel
theorem dT_grow_83 : decode cT_grow 83 = .ok (.iconst 1, 1) := by decide +kernel
theorem dT_grow_84 : decode cT_grow 84 = .ok (.if_icmp .ne 7, 3) := by decide +kernel
theorem dT_grow_87 : decode cT_grow 87 = .ok (.iconst 1, 1) := by decide +kernel
theorem dT_grow_88 : decode cT_grow 88 = .ok (.goto 4, 3) := by decide +kernel
theorem dT_grow_91 : decode cT_grow 91 = .ok (.iconst 0, 1) := by decide +kernel
theorem dT_grow_92 : decode cT_grow 92 = .ok (.istore 6, 2) := by decide +kernel
theorem dT_grow_94 : decode cT_grow 94 = .ok (.iload 4, 2) := by decide +kernel
theorem dT_grow_96 : decode cT_grow 96 = .ok (.ifCond .eq 9, 3) := by decide +kernel
theorem dT_grow_99 : decode cT_grow 99 = .ok (.aload_n 3, 1) := by decide +kernel
theorem dT_grow_100 : decode cT_grow 100 = .ok (.iload 6, 2) := by decide +kernel
theorem dT_grow_102 : decode cT_grow 102 = .ok (.invokevirtual 56, 3) := by decide +kernel
theorem dT_grow_105 : decode cT_grow 105 = .ok (.iload 5, 2) := by decide +kernel
theorem dT_grow_107 : decode cT_grow 107 = .ok (.ifCond .eq 9, 3) := by decide +kernel
theorem dT_grow_110 : decode cT_grow 110 = .ok (.aload_n 3, 1) := by decide +kernel
theorem dT_grow_111 : decode cT_grow 111 = .ok (.iload 6, 2) := by decide +kernel
theorem dT_grow_113 : decode cT_grow 113 = .ok (.invokevirtual 60, 3) := by decide +kernel
theorem dT_grow_116 : decode cT_grow 116 = .ok (.iconst 1, 1) := by decide +kernel
theorem dT_grow_117 : decode cT_grow 117 = .ok (.ireturn, 1) := by decide +kernel
theorem dT_shrink_0 : decode cT_shrink 0 = .ok (.aload_n 0, 1) := by decide +kernel
theorem dT_shrink_1 : decode cT_shrink 1 = .ok (.iload_n 1, 1) := by decide +kernel
theorem dT_shrink_2 : decode cT_shrink 2 = .ok (.invokevirtual 16, 3) := by decide +kernel
theorem dT_shrink_5 : decode cT_shrink 5 = .ok (.astore_n 3, 1) := by decide +kernel
theorem dT_shrink_6 : decode cT_shrink 6 = .ok (.iload_n 2, 1) := by decide +kernel
theorem dT_shrink_7 : decode cT_shrink 7 = .ok (.tableswitch 43 0 2 #[25, 31, 37], 25) := by decide +kernel
theorem dT_shrink_32 : decode cT_shrink 32 = .ok (.aload_n 3, 1) := by decide +kernel
theorem dT_shrink_33 : decode cT_shrink 33 = .ok (.invokevirtual 63, 3) := by decide +kernel
theorem dT_shrink_36 : decode cT_shrink 36 = .ok (.iconst 1, 1) := by decide +kernel
theorem dT_shrink_37 : decode cT_shrink 37 = .ok (.ireturn, 1) := by decide +kernel
theorem dT_shrink_38 : decode cT_shrink 38 = .ok (.aload_n 3, 1) := by decide +kernel
theorem dT_shrink_39 : decode cT_shrink 39 = .ok (.invokevirtual 66, 3) := by decide +kernel
theorem dT_shrink_42 : decode cT_shrink 42 = .ok (.iconst 1, 1) := by decide +kernel
theorem dT_shrink_43 : decode cT_shrink 43 = .ok (.ireturn, 1) := by decide +kernel
theorem dT_shrink_44 : decode cT_shrink 44 = .ok (.aload_n 3, 1) := by decide +kernel
theorem dT_shrink_45 : decode cT_shrink 45 = .ok (.invokevirtual 69, 3) := by decide +kernel
theorem dT_shrink_48 : decode cT_shrink 48 = .ok (.iconst 1, 1) := by decide +kernel
theorem dT_shrink_49 : decode cT_shrink 49 = .ok (.ireturn, 1) := by decide +kernel
theorem dT_shrink_50 : decode cT_shrink 50 = .ok (.iconst 0, 1) := by decide +kernel
theorem dT_shrink_51 : decode cT_shrink 51 = .ok (.ireturn, 1) := by decide +kernel
theorem dT_copy_0 : decode cT_copy 0 = .ok (.aload_n 0, 1) := by decide +kernel
theorem dT_copy_1 : decode cT_copy 1 = .ok (.iload_n 1, 1) := by decide +kernel
theorem dT_copy_2 : decode cT_copy 2 = .ok (.invokevirtual 16, 3) := by decide +kernel
theorem dT_copy_5 : decode cT_copy 5 = .ok (.astore_n 3, 1) := by decide +kernel
theorem dT_copy_6 : decode cT_copy 6 = .ok (.aload_n 0, 1) := by decide +kernel
theorem dT_copy_7 : decode cT_copy 7 = .ok (.iload_n 2, 1) := by decide +kernel
theorem dT_copy_8 : decode cT_copy 8 = .ok (.invokevirtual 16, 3) := by decide +kernel
theorem dT_copy_11 : decode cT_copy 11 = .ok (.astore 4, 2) := by decide +kernel
theorem dT_copy_13 : decode cT_copy 13 = .ok (.aload 4, 2) := by decide +kernel
theorem dT_copy_15 : decode cT_copy 15 = .ok (.aload_n 3, 1) := by decide +kernel
theorem dT_copy_16 : decode cT_copy 16 = .ok (.invokevirtual 79, 3) := by decide +kernel
theorem dT_copy_19 : decode cT_copy 19 = .ok (.return_, 1) := by decide +kernel
theorem dT_extend_0 : decode cT_extend 0 = .ok (.aload_n 0, 1) := by decide +kernel
theorem dT_extend_1 : decode cT_extend 1 = .ok (.iload_n 1, 1) := by decide +kernel
theorem dT_extend_2 : decode cT_extend 2 = .ok (.invokevirtual 16, 3) := by decide +kernel
theorem dT_extend_5 : decode cT_extend 5 = .ok (.astore 4, 2) := by decide +kernel
theorem dT_extend_7 : decode cT_extend 7 = .ok (.iload_n 2, 1) := by decide +kernel
theorem dT_extend_8 : decode cT_extend 8 = .ok (.aload 4, 2) := by decide +kernel
theorem dT_extend_10 : decode cT_extend 10 = .ok (.getfield 45, 3) := by decide +kernel
theorem dT_extend_13 : decode cT_extend 13 = .ok (.if_icmp .lt 24, 3) := by decide +kernel
theorem dT_extend_16 : decode cT_extend 16 = .ok (.iload_n 2, 1) := by decide +kernel
theorem dT_extend_17 : decode cT_extend 17 = .ok (.bipush 32, 2) := by decide +kernel
theorem dT_extend_19 : decode cT_extend 19 = .ok (.if_icmp .gt 18, 3) := by decide +kernel
theorem dT_extend_22 : decode cT_extend 22 = .ok (.iload_n 3, 1) := by decide +kernel
theorem dT_extend_23 : decode cT_extend 23 = .ok (.aload 4, 2) := by decide +kernel
theorem dT_extend_25 : decode cT_extend 25 = .ok (.getfield 53, 3) := by decide +kernel
theorem dT_extend_28 : decode cT_extend 28 = .ok (.if_icmp .lt 9, 3) := by decide +kernel
theorem dT_extend_31 : decode cT_extend 31 = .ok (.iload_n 3, 1) := by decide +kernel
theorem dT_extend_32 : decode cT_extend 32 = .ok (.bipush 32, 2) := by decide +kernel
theorem dT_extend_34 : decode cT_extend 34 = .ok (.if_icmp .le 5, 3) := by decide +kernel
theorem dT_extend_37 : decode cT_extend 37 = .ok (.iconst 0, 1) := by decide +kernel
theorem dT_extend_38 : decode cT_extend 38 = .ok (.ireturn, 1) := by decide +kernel
theorem dT_extend_39 : decode cT_extend 39 = .ok (.aload 4, 2) := by decide +kernel
theorem dT_extend_41 : decode cT_extend 41 = .ok (.iload_n 2, 1) := by decide +kernel
theorem dT_extend_42 : decode cT_extend 42 = .ok (.invokevirtual 83, 3) := by decide +kernel
theorem dT_extend_45 : decode cT_extend 45 = .ok (.aload 4, 2) := by decide +kernel
theorem dT_extend_47 : decode cT_extend 47 = .ok (.iload_n 3, 1) := by decide +kernel
theorem dT_extend_48 : decode cT_extend 48 = .ok (.invokevirtual 87, 3) := by decide +kernel
theorem dT_extend_51 : decode cT_extend 51 = .ok (.iconst 1, 1) := by decide +kernel
theorem dT_extend_52 : decode cT_extend 52 = .ok (.ireturn, 1) := by decide +kernel
theorem dT_cut_0 : decode cT_cut 0 = .ok (.aload_n 0, 1) := by decide +kernel
theorem dT_cut_1 : decode cT_cut 1 = .ok (.iload_n 1, 1) := by decide +kernel
theorem dT_cut_2 : decode cT_cut 2 = .ok (.invokevirtual 16, 3) := by decide +kernel
theorem dT_cut_5 : decode cT_cut 5 = .ok (.astore 4, 2) := by decide +kernel
theorem dT_cut_7 : decode cT_cut 7 = .ok (.iload_n 2, 1) := by decide +kernel
theorem dT_cut_8 : decode cT_cut 8 = .ok (.iconst 1, 1) := by decide +kernel
theorem dT_cut_9 : decode cT_cut 9 = .ok (.if_icmp .lt 26, 3) := by decide +kernel
theorem dT_cut_12 : decode cT_cut 12 = .ok (.iload_n 2, 1) := by decide +kernel
theorem dT_cut_13 : decode cT_cut 13 = .ok (.aload 4, 2) := by decide +kernel
theorem dT_cut_15 : decode cT_cut 15 = .ok (.getfield 45, 3) := by decide +kernel
theorem dT_cut_18 : decode cT_cut 18 = .ok (.if_icmp .gt 17, 3) := by decide +kernel
theorem dT_cut_21 : decode cT_cut 21 = .ok (.iload_n 3, 1) := by decide +kernel
theorem dT_cut_22 : decode cT_cut 22 = .ok (.iconst 1, 1) := by decide +kernel
theorem dT_cut_23 : decode cT_cut 23 = .ok (.if_icmp .lt 12, 3) := by decide +kernel
theorem dT_cut_26 : decode cT_cut 26 = .ok (.iload_n 3, 1) := by decide +kernel
theorem dT_cut_27 : decode cT_cut 27 = .ok (.aload 4, 2) := by decide +kernel
theorem dT_cut_29 : decode cT_cut 29 = .ok (.getfield 53, 3) := by decide +kernel
theorem dT_cut_32 : decode cT_cut 32 = .ok (.if_icmp .le 5, 3) := by decide +kernel
theorem dT_cut_35 : decode cT_cut 35 = .ok (.iconst 0, 1) := by decide +kernel
theorem dT_cut_36 : decode cT_cut 36 = .ok (.ireturn, 1) := by decide +kernel
theorem dT_cut_37 : decode cT_cut 37 = .ok (.aload 4, 2) := by decide +kernel
theorem dT_cut_39 : decode cT_cut 39 = .ok (.iload_n 2, 1) := by decide +kernel
theorem dT_cut_40 : decode cT_cut 40 = .ok (.putfield 45, 3) := by decide +kernel
theorem dT_cut_43 : decode cT_cut 43 = .ok (.aload 4, 2) := by decide +kernel
theorem dT_cut_45 : decode cT_cut 45 = .ok (.iload_n 3, 1) := by decide +kernel
theorem dT_cut_46 : decode cT_cut 46 = .ok (.putfield 53, 3) := by decide +kernel
theorem dT_cut_49 : decode cT_cut 49 = .ok (.iconst 1, 1) := by decide +kernel
theorem dT_cut_50 : decode cT_cut 50 = .ok (.ireturn, 1) := by decide +kernel
theorem dT_at_0 : decode cT_at 0 = .ok (.aload_n 0, 1) := by decide +kernel
theorem dT_at_1 : decode cT_at 1 = .ok (.iload_n 1, 1) := by decide +kernel
theorem dT_at_2 : decode cT_at 2 = .ok (.iload_n 2, 1) := by decide +kernel
theorem dT_at_3 : decode cT_at 3 = .ok (.iload_n 3, 1) := by decide +kernel
theorem dT_at_4 : decode cT_at 4 = .ok (.invokevirtual 31, 3) := by decide +kernel
theorem dT_at_7 : decode cT_at 7 = .ok (.getfield 37, 3) := by decide +kernel
theorem dT_at_10 : decode cT_at 10 = .ok (.iload_n 2, 1) := by decide +kernel
theorem dT_at_11 : decode cT_at 11 = .ok (.iload_n 3, 1) := by decide +kernel
theorem dT_at_12 : decode cT_at 12 = .ok (.invokestatic 41, 3) := by decide +kernel
theorem dT_at_15 : decode cT_at 15 = .ok (.iaload, 1) := by decide +kernel
theorem dT_at_16 : decode cT_at 16 = .ok (.ireturn, 1) := by decide +kernel
theorem dT_eight_0 : decode cT_eight 0 = .ok (.aload_n 0, 1) := by decide +kernel
theorem dT_eight_1 : decode cT_eight 1 = .ok (.iload_n 1, 1) := by decide +kernel
theorem dT_eight_2 : decode cT_eight 2 = .ok (.invokevirtual 16, 3) := by decide +kernel
theorem dT_eight_5 : decode cT_eight 5 = .ok (.astore 4, 2) := by decide +kernel
theorem dT_eight_7 : decode cT_eight 7 = .ok (.lconst 0, 1) := by decide +kernel
theorem dT_eight_8 : decode cT_eight 8 = .ok (.lstore 5, 2) := by decide +kernel
theorem dT_eight_10 : decode cT_eight 10 = .ok (.iconst 0, 1) := by decide +kernel
theorem dT_eight_11 : decode cT_eight 11 = .ok (.istore 7, 2) := by decide +kernel
theorem dT_eight_13 : decode cT_eight 13 = .ok (.iload 7, 2) := by decide +kernel
theorem dT_eight_15 : decode cT_eight 15 = .ok (.bipush 8, 2) := by decide +kernel
theorem dT_eight_17 : decode cT_eight 17 = .ok (.if_icmp .ge 48, 3) := by decide +kernel
theorem dT_eight_20 : decode cT_eight 20 = .ok (.aload 4, 2) := by decide +kernel
theorem dT_eight_22 : decode cT_eight 22 = .ok (.iload_n 2, 1) := by decide +kernel
theorem dT_eight_23 : decode cT_eight 23 = .ok (.iload 7, 2) := by decide +kernel
theorem dT_eight_25 : decode cT_eight 25 = .ok (.iadd, 1) := by decide +kernel
theorem dT_eight_26 : decode cT_eight 26 = .ok (.iload_n 3, 1) := by decide +kernel
theorem dT_eight_27 : decode cT_eight 27 = .ok (.invokevirtual 90, 3) := by decide +kernel
theorem dT_eight_30 : decode cT_eight 30 = .ok (.ifCond .eq 29, 3) := by decide +kernel
theorem dT_eight_33 : decode cT_eight 33 = .ok (.lload 5, 2) := by decide +kernel
theorem dT_eight_35 : decode cT_eight 35 = .ok (.aload 4, 2) := by decide +kernel
theorem dT_eight_37 : decode cT_eight 37 = .ok (.getfield 37, 3) := by decide +kernel
theorem dT_eight_40 : decode cT_eight 40 = .ok (.iload_n 2, 1) := by decide +kernel
theorem dT_eight_41 : decode cT_eight 41 = .ok (.iload 7, 2) := by decide +kernel
theorem dT_eight_43 : decode cT_eight 43 = .ok (.iadd, 1) := by decide +kernel
theorem dT_eight_44 : decode cT_eight 44 = .ok (.iload_n 3, 1) := by decide +kernel
theorem dT_eight_45 : decode cT_eight 45 = .ok (.invokestatic 41, 3) := by decide +kernel
theorem dT_eight_48 : decode cT_eight 48 = .ok (.iaload, 1) := by decide +kernel
theorem dT_eight_49 : decode cT_eight 49 = .ok (.i2l, 1) := by decide +kernel
theorem dT_eight_50 : decode cT_eight 50 = .ok (.iload 7, 2) := by decide +kernel
theorem dT_eight_52 : decode cT_eight 52 = .ok (.invokestatic 49, 3) := by decide +kernel
theorem dT_eight_55 : decode cT_eight 55 = .ok (.lshl, 1) := by decide +kernel
theorem dT_eight_56 : decode cT_eight 56 = .ok (.lor, 1) := by decide +kernel
theorem dT_eight_57 : decode cT_eight 57 = .ok (.lstore 5, 2) := by decide +kernel
theorem dT_eight_59 : decode cT_eight 59 = .ok (.iinc 7 1, 3) := by decide +kernel
theorem dT_eight_62 : decode cT_eight 62 = .ok (.goto (-49), 3) := by decide +kernel
theorem dT_eight_65 : decode cT_eight 65 = .ok (.lload 5, 2) := by decide +kernel
theorem dT_eight_67 : decode cT_eight 67 = .ok (.lreturn, 1) := by decide +kernel
theorem dT_apart_0 : decode cT_apart 0 = .ok (.aload_n 0, 1) := by decide +kernel
theorem dT_apart_1 : decode cT_apart 1 = .ok (.iload_n 1, 1) := by decide +kernel
theorem dT_apart_2 : decode cT_apart 2 = .ok (.invokevirtual 16, 3) := by decide +kernel
theorem dT_apart_5 : decode cT_apart 5 = .ok (.astore_n 3, 1) := by decide +kernel
theorem dT_apart_6 : decode cT_apart 6 = .ok (.aload_n 0, 1) := by decide +kernel
theorem dT_apart_7 : decode cT_apart 7 = .ok (.iload_n 2, 1) := by decide +kernel
theorem dT_apart_8 : decode cT_apart 8 = .ok (.invokevirtual 16, 3) := by decide +kernel
theorem dT_apart_11 : decode cT_apart 11 = .ok (.astore 4, 2) := by decide +kernel
theorem dT_apart_13 : decode cT_apart 13 = .ok (.aload_n 3, 1) := by decide +kernel
theorem dT_apart_14 : decode cT_apart 14 = .ok (.aload 4, 2) := by decide +kernel
theorem dT_apart_16 : decode cT_apart 16 = .ok (.invokevirtual 94, 3) := by decide +kernel
theorem dT_apart_19 : decode cT_apart 19 = .ok (.ifCond .eq 12, 3) := by decide +kernel
theorem dT_apart_22 : decode cT_apart 22 = .ok (.aload_n 3, 1) := by decide +kernel
theorem dT_apart_23 : decode cT_apart 23 = .ok (.aload 4, 2) := by decide +kernel
theorem dT_apart_25 : decode cT_apart 25 = .ok (.invokevirtual 98, 3) := by decide +kernel
theorem dT_apart_28 : decode cT_apart 28 = .ok (.goto 4, 3) := by decide +kernel
theorem dT_apart_31 : decode cT_apart 31 = .ok (.iconst (-1), 1) := by decide +kernel
theorem dT_apart_32 : decode cT_apart 32 = .ok (.ireturn, 1) := by decide +kernel
theorem dT_look_0 : decode cT_look 0 = .ok (.aload_n 0, 1) := by decide +kernel
theorem dT_look_1 : decode cT_look 1 = .ok (.iload_n 1, 1) := by decide +kernel
theorem dT_look_2 : decode cT_look 2 = .ok (.invokevirtual 16, 3) := by decide +kernel
theorem dT_look_5 : decode cT_look 5 = .ok (.astore_n 3, 1) := by decide +kernel
theorem dT_look_6 : decode cT_look 6 = .ok (.iload_n 2, 1) := by decide +kernel
theorem dT_look_7 : decode cT_look 7 = .ok (.tableswitch 58 0 4 #[33, 38, 43, 48, 53], 33) := by decide +kernel
theorem dT_look_40 : decode cT_look 40 = .ok (.aload_n 3, 1) := by decide +kernel
theorem dT_look_41 : decode cT_look 41 = .ok (.getfield 45, 3) := by decide +kernel
theorem dT_look_44 : decode cT_look 44 = .ok (.ireturn, 1) := by decide +kernel
theorem dT_look_45 : decode cT_look 45 = .ok (.aload_n 3, 1) := by decide +kernel
theorem dT_look_46 : decode cT_look 46 = .ok (.getfield 53, 3) := by decide +kernel
theorem dT_look_49 : decode cT_look 49 = .ok (.ireturn, 1) := by decide +kernel
theorem dT_look_50 : decode cT_look 50 = .ok (.aload_n 3, 1) := by decide +kernel
theorem dT_look_51 : decode cT_look 51 = .ok (.invokevirtual 102, 3) := by decide +kernel
theorem dT_look_54 : decode cT_look 54 = .ok (.ireturn, 1) := by decide +kernel
theorem dT_look_55 : decode cT_look 55 = .ok (.aload_n 3, 1) := by decide +kernel
theorem dT_look_56 : decode cT_look 56 = .ok (.invokevirtual 106, 3) := by decide +kernel
theorem dT_look_59 : decode cT_look 59 = .ok (.ireturn, 1) := by decide +kernel
theorem dT_look_60 : decode cT_look 60 = .ok (.aload_n 3, 1) := by decide +kernel
theorem dT_look_61 : decode cT_look 61 = .ok (.invokevirtual 109, 3) := by decide +kernel
theorem dT_look_64 : decode cT_look 64 = .ok (.ireturn, 1) := by decide +kernel
theorem dT_look_65 : decode cT_look 65 = .ok (.iconst (-1), 1) := by decide +kernel
theorem dT_look_66 : decode cT_look 66 = .ok (.ireturn, 1) := by decide +kernel

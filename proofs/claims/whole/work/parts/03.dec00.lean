theorem dX0_init_0 : decode cX0_init 0 = .ok (.aload_n 0, 1) := by decide +kernel
theorem dX0_init_1 : decode cX0_init 1 = .ok (.invokespecial 3, 3) := by decide +kernel
theorem dX0_init_4 : decode cX0_init 4 = .ok (.aload_n 0, 1) := by decide +kernel
theorem dX0_init_5 : decode cX0_init 5 = .ok (.new 9, 3) := by decide +kernel
theorem dX0_init_8 : decode cX0_init 8 = .ok (.dup, 1) := by decide +kernel
theorem dX0_init_9 : decode cX0_init 9 = .ok (.invokespecial 11, 3) := by decide +kernel
theorem dX0_init_12 : decode cX0_init 12 = .ok (.putfield 12, 3) := by decide +kernel
theorem dX0_init_15 : decode cX0_init 15 = .ok (.aload_n 0, 1) := by decide +kernel
theorem dX0_init_16 : decode cX0_init 16 = .ok (.bipush 32, 2) := by decide +kernel
theorem dX0_init_18 : decode cX0_init 18 = .ok (.newarray .byte, 2) := by decide +kernel
theorem dX0_init_20 : decode cX0_init 20 = .ok (.putfield 18, 3) := by decide +kernel
theorem dX0_init_23 : decode cX0_init 23 = .ok (.aload_n 0, 1) := by decide +kernel
theorem dX0_init_24 : decode cX0_init 24 = .ok (.bipush 32, 2) := by decide +kernel
theorem dX0_init_26 : decode cX0_init 26 = .ok (.newarray .byte, 2) := by decide +kernel
theorem dX0_init_28 : decode cX0_init 28 = .ok (.putfield 22, 3) := by decide +kernel
theorem dX0_init_31 : decode cX0_init 31 = .ok (.return_, 1) := by decide +kernel
theorem dX0_start_0 : decode cX0_start 0 = .ok (.aload_n 1, 1) := by decide +kernel
theorem dX0_start_1 : decode cX0_start 1 = .ok (.iload_n 2, 1) := by decide +kernel
theorem dX0_start_2 : decode cX0_start 2 = .ok (.aload_n 0, 1) := by decide +kernel
theorem dX0_start_3 : decode cX0_start 3 = .ok (.getfield 18, 3) := by decide +kernel
theorem dX0_start_6 : decode cX0_start 6 = .ok (.iconst 0, 1) := by decide +kernel
theorem dX0_start_7 : decode cX0_start 7 = .ok (.bipush 32, 2) := by decide +kernel
theorem dX0_start_9 : decode cX0_start 9 = .ok (.invokestatic 25, 3) := by decide +kernel
theorem dX0_start_12 : decode cX0_start 12 = .ok (.aload_n 1, 1) := by decide +kernel
theorem dX0_start_13 : decode cX0_start 13 = .ok (.iload_n 2, 1) := by decide +kernel
theorem dX0_start_14 : decode cX0_start 14 = .ok (.aload_n 0, 1) := by decide +kernel
theorem dX0_start_15 : decode cX0_start 15 = .ok (.getfield 22, 3) := by decide +kernel
theorem dX0_start_18 : decode cX0_start 18 = .ok (.iconst 0, 1) := by decide +kernel
theorem dX0_start_19 : decode cX0_start 19 = .ok (.bipush 32, 2) := by decide +kernel
theorem dX0_start_21 : decode cX0_start 21 = .ok (.invokestatic 25, 3) := by decide +kernel
theorem dX0_start_24 : decode cX0_start 24 = .ok (.return_, 1) := by decide +kernel
theorem dX0_climb_0 : decode cX0_climb 0 = .ok (.iload_n 3, 1) := by decide +kernel
theorem dX0_climb_1 : decode cX0_climb 1 = .ok (.istore 4, 2) := by decide +kernel
theorem dX0_climb_3 : decode cX0_climb 3 = .ok (.aload_n 1, 1) := by decide +kernel
theorem dX0_climb_4 : decode cX0_climb 4 = .ok (.getfield 31, 3) := by decide +kernel
theorem dX0_climb_7 : decode cX0_climb 7 = .ok (.ifCond .eq 13, 3) := by decide +kernel
theorem dX0_climb_10 : decode cX0_climb 10 = .ok (.aload_n 0, 1) := by decide +kernel
theorem dX0_climb_11 : decode cX0_climb 11 = .ok (.aload_n 2, 1) := by decide +kernel
theorem dX0_climb_12 : decode cX0_climb 12 = .ok (.iload 4, 2) := by decide +kernel
theorem dX0_climb_14 : decode cX0_climb 14 = .ok (.invokevirtual 37, 3) := by decide +kernel
theorem dX0_climb_17 : decode cX0_climb 17 = .ok (.iinc 4 32, 3) := by decide +kernel
theorem dX0_climb_20 : decode cX0_climb 20 = .ok (.aload_n 1, 1) := by decide +kernel
theorem dX0_climb_21 : decode cX0_climb 21 = .ok (.getfield 41, 3) := by decide +kernel
theorem dX0_climb_24 : decode cX0_climb 24 = .ok (.iconst 1, 1) := by decide +kernel
theorem dX0_climb_25 : decode cX0_climb 25 = .ok (.isub, 1) := by decide +kernel
theorem dX0_climb_26 : decode cX0_climb 26 = .ok (.istore 5, 2) := by decide +kernel
theorem dX0_climb_28 : decode cX0_climb 28 = .ok (.iload 5, 2) := by decide +kernel
theorem dX0_climb_30 : decode cX0_climb 30 = .ok (.ifCond .lt 89, 3) := by decide +kernel
theorem dX0_climb_33 : decode cX0_climb 33 = .ok (.iload 5, 2) := by decide +kernel
theorem dX0_climb_35 : decode cX0_climb 35 = .ok (.bipush 64, 2) := by decide +kernel
theorem dX0_climb_37 : decode cX0_climb 37 = .ok (.if_icmp .ge 82, 3) := by decide +kernel
theorem dX0_climb_40 : decode cX0_climb 40 = .ok (.aload_n 1, 1) := by decide +kernel
theorem dX0_climb_41 : decode cX0_climb 41 = .ok (.getfield 45, 3) := by decide +kernel
theorem dX0_climb_44 : decode cX0_climb 44 = .ok (.iload 5, 2) := by decide +kernel
theorem dX0_climb_46 : decode cX0_climb 46 = .ok (.baload, 1) := by decide +kernel
theorem dX0_climb_47 : decode cX0_climb 47 = .ok (.ifCond .eq 44, 3) := by decide +kernel
theorem dX0_climb_50 : decode cX0_climb 50 = .ok (.aload_n 0, 1) := by decide +kernel
theorem dX0_climb_51 : decode cX0_climb 51 = .ok (.getfield 12, 3) := by decide +kernel
theorem dX0_climb_54 : decode cX0_climb 54 = .ok (.aload_n 2, 1) := by decide +kernel
theorem dX0_climb_55 : decode cX0_climb 55 = .ok (.iload 4, 2) := by decide +kernel
theorem dX0_climb_57 : decode cX0_climb 57 = .ok (.aload_n 0, 1) := by decide +kernel
theorem dX0_climb_58 : decode cX0_climb 58 = .ok (.getfield 18, 3) := by decide +kernel
theorem dX0_climb_61 : decode cX0_climb 61 = .ok (.iconst 0, 1) := by decide +kernel
theorem dX0_climb_62 : decode cX0_climb 62 = .ok (.aload_n 0, 1) := by decide +kernel
theorem dX0_climb_63 : decode cX0_climb 63 = .ok (.getfield 18, 3) := by decide +kernel
theorem dX0_climb_66 : decode cX0_climb 66 = .ok (.invokevirtual 49, 3) := by decide +kernel
theorem dX0_climb_69 : decode cX0_climb 69 = .ok (.aload_n 0, 1) := by decide +kernel
theorem dX0_climb_70 : decode cX0_climb 70 = .ok (.getfield 12, 3) := by decide +kernel
theorem dX0_climb_73 : decode cX0_climb 73 = .ok (.aload_n 2, 1) := by decide +kernel
theorem dX0_climb_74 : decode cX0_climb 74 = .ok (.iload 4, 2) := by decide +kernel
theorem dX0_climb_76 : decode cX0_climb 76 = .ok (.aload_n 0, 1) := by decide +kernel
theorem dX0_climb_77 : decode cX0_climb 77 = .ok (.getfield 22, 3) := by decide +kernel
theorem dX0_climb_80 : decode cX0_climb 80 = .ok (.iconst 0, 1) := by decide +kernel
theorem dX0_climb_81 : decode cX0_climb 81 = .ok (.aload_n 0, 1) := by decide +kernel
theorem dX0_climb_82 : decode cX0_climb 82 = .ok (.getfield 22, 3) := by decide +kernel
theorem dX0_climb_85 : decode cX0_climb 85 = .ok (.invokevirtual 49, 3) := by decide +kernel
theorem dX0_climb_88 : decode cX0_climb 88 = .ok (.goto 22, 3) := by decide +kernel
theorem dX0_climb_91 : decode cX0_climb 91 = .ok (.aload_n 0, 1) := by decide +kernel
theorem dX0_climb_92 : decode cX0_climb 92 = .ok (.getfield 12, 3) := by decide +kernel
theorem dX0_climb_95 : decode cX0_climb 95 = .ok (.aload_n 0, 1) := by decide +kernel
theorem dX0_climb_96 : decode cX0_climb 96 = .ok (.getfield 22, 3) := by decide +kernel
theorem dX0_climb_99 : decode cX0_climb 99 = .ok (.iconst 0, 1) := by decide +kernel
theorem dX0_climb_100 : decode cX0_climb 100 = .ok (.aload_n 2, 1) := by decide +kernel
theorem dX0_climb_101 : decode cX0_climb 101 = .ok (.iload 4, 2) := by decide +kernel
theorem dX0_climb_103 : decode cX0_climb 103 = .ok (.aload_n 0, 1) := by decide +kernel
theorem dX0_climb_104 : decode cX0_climb 104 = .ok (.getfield 22, 3) := by decide +kernel
theorem dX0_climb_107 : decode cX0_climb 107 = .ok (.invokevirtual 49, 3) := by decide +kernel
theorem dX0_climb_110 : decode cX0_climb 110 = .ok (.iinc 4 32, 3) := by decide +kernel
theorem dX0_climb_113 : decode cX0_climb 113 = .ok (.iinc 5 (-1), 3) := by decide +kernel
theorem dX0_climb_116 : decode cX0_climb 116 = .ok (.goto (-88), 3) := by decide +kernel
theorem dX0_climb_119 : decode cX0_climb 119 = .ok (.return_, 1) := by decide +kernel
theorem dX0_leftFrom_0 : decode cX0_leftFrom 0 = .ok (.aload_n 0, 1) := by decide +kernel
theorem dX0_leftFrom_1 : decode cX0_leftFrom 1 = .ok (.getfield 18, 3) := by decide +kernel
theorem dX0_leftFrom_4 : decode cX0_leftFrom 4 = .ok (.iconst 0, 1) := by decide +kernel
theorem dX0_leftFrom_5 : decode cX0_leftFrom 5 = .ok (.aload_n 1, 1) := by decide +kernel
theorem dX0_leftFrom_6 : decode cX0_leftFrom 6 = .ok (.iload_n 2, 1) := by decide +kernel
theorem dX0_leftFrom_7 : decode cX0_leftFrom 7 = .ok (.bipush 32, 2) := by decide +kernel
theorem dX0_leftFrom_9 : decode cX0_leftFrom 9 = .ok (.invokestatic 53, 3) := by decide +kernel
theorem dX0_leftFrom_12 : decode cX0_leftFrom 12 = .ok (.ireturn, 1) := by decide +kernel
theorem dX0_cameTo_0 : decode cX0_cameTo 0 = .ok (.aload_n 0, 1) := by decide +kernel
theorem dX0_cameTo_1 : decode cX0_cameTo 1 = .ok (.getfield 22, 3) := by decide +kernel
theorem dX0_cameTo_4 : decode cX0_cameTo 4 = .ok (.iconst 0, 1) := by decide +kernel
theorem dX0_cameTo_5 : decode cX0_cameTo 5 = .ok (.aload_n 1, 1) := by decide +kernel
theorem dX0_cameTo_6 : decode cX0_cameTo 6 = .ok (.iload_n 2, 1) := by decide +kernel
theorem dX0_cameTo_7 : decode cX0_cameTo 7 = .ok (.bipush 32, 2) := by decide +kernel
theorem dX0_cameTo_9 : decode cX0_cameTo 9 = .ok (.invokestatic 53, 3) := by decide +kernel
theorem dX0_cameTo_12 : decode cX0_cameTo 12 = .ok (.ireturn, 1) := by decide +kernel
theorem dX1_init_0 : decode cX1_init 0 = .ok (.aload_n 0, 1) := by decide +kernel
theorem dX1_init_1 : decode cX1_init 1 = .ok (.invokespecial 3, 3) := by decide +kernel
theorem dX1_init_4 : decode cX1_init 4 = .ok (.aload_n 0, 1) := by decide +kernel
theorem dX1_init_5 : decode cX1_init 5 = .ok (.new 9, 3) := by decide +kernel
theorem dX1_init_8 : decode cX1_init 8 = .ok (.dup, 1) := by decide +kernel
theorem dX1_init_9 : decode cX1_init 9 = .ok (.invokespecial 11, 3) := by decide +kernel
theorem dX1_init_12 : decode cX1_init 12 = .ok (.putfield 12, 3) := by decide +kernel
theorem dX1_init_15 : decode cX1_init 15 = .ok (.aload_n 0, 1) := by decide +kernel
theorem dX1_init_16 : decode cX1_init 16 = .ok (.bipush 64, 2) := by decide +kernel
theorem dX1_init_18 : decode cX1_init 18 = .ok (.newarray .byte, 2) := by decide +kernel
theorem dX1_init_20 : decode cX1_init 20 = .ok (.putfield 18, 3) := by decide +kernel
theorem dX1_init_23 : decode cX1_init 23 = .ok (.aload_n 0, 1) := by decide +kernel
theorem dX1_init_24 : decode cX1_init 24 = .ok (.sipush 200, 3) := by decide +kernel
theorem dX1_init_27 : decode cX1_init 27 = .ok (.anewarray 22, 3) := by decide +kernel
theorem dX1_init_30 : decode cX1_init 30 = .ok (.putfield 24, 3) := by decide +kernel
theorem dX1_init_33 : decode cX1_init 33 = .ok (.aload_n 0, 1) := by decide +kernel
theorem dX1_init_34 : decode cX1_init 34 = .ok (.sipush 400, 3) := by decide +kernel
theorem dX1_init_37 : decode cX1_init 37 = .ok (.anewarray 22, 3) := by decide +kernel
theorem dX1_init_40 : decode cX1_init 40 = .ok (.putfield 28, 3) := by decide +kernel
theorem dX1_init_43 : decode cX1_init 43 = .ok (.aload_n 0, 1) := by decide +kernel
theorem dX1_init_44 : decode cX1_init 44 = .ok (.bipush 40, 2) := by decide +kernel
theorem dX1_init_46 : decode cX1_init 46 = .ok (.anewarray 22, 3) := by decide +kernel
theorem dX1_init_49 : decode cX1_init 49 = .ok (.putfield 31, 3) := by decide +kernel
theorem dX1_init_52 : decode cX1_init 52 = .ok (.aload_n 0, 1) := by decide +kernel
theorem dX1_init_53 : decode cX1_init 53 = .ok (.bipush 32, 2) := by decide +kernel
theorem dX1_init_55 : decode cX1_init 55 = .ok (.newarray .byte, 2) := by decide +kernel
theorem dX1_init_57 : decode cX1_init 57 = .ok (.putfield 34, 3) := by decide +kernel
theorem dX1_init_60 : decode cX1_init 60 = .ok (.aload_n 0, 1) := by decide +kernel
theorem dX1_init_61 : decode cX1_init 61 = .ok (.bipush 80, 2) := by decide +kernel
theorem dX1_init_63 : decode cX1_init 63 = .ok (.newarray .byte, 2) := by decide +kernel
theorem dX1_init_65 : decode cX1_init 65 = .ok (.putfield 37, 3) := by decide +kernel
theorem dX1_init_68 : decode cX1_init 68 = .ok (.return_, 1) := by decide +kernel
theorem dX1_takeKey_0 : decode cX1_takeKey 0 = .ok (.aload_n 0, 1) := by decide +kernel
theorem dX1_takeKey_1 : decode cX1_takeKey 1 = .ok (.getfield 18, 3) := by decide +kernel
theorem dX1_takeKey_4 : decode cX1_takeKey 4 = .ok (.iconst 0, 1) := by decide +kernel
theorem dX1_takeKey_5 : decode cX1_takeKey 5 = .ok (.invokestatic 40, 3) := by decide +kernel
theorem dX1_takeKey_8 : decode cX1_takeKey 8 = .ok (.iload_n 2, 1) := by decide +kernel
theorem dX1_takeKey_9 : decode cX1_takeKey 9 = .ok (.bipush 64, 2) := by decide +kernel
theorem dX1_takeKey_11 : decode cX1_takeKey 11 = .ok (.if_icmp .le 34, 3) := by decide +kernel
theorem dX1_takeKey_14 : decode cX1_takeKey 14 = .ok (.aload_n 0, 1) := by decide +kernel
theorem dX1_takeKey_15 : decode cX1_takeKey 15 = .ok (.getfield 12, 3) := by decide +kernel
theorem dX1_takeKey_18 : decode cX1_takeKey 18 = .ok (.invokevirtual 46, 3) := by decide +kernel
theorem dX1_takeKey_21 : decode cX1_takeKey 21 = .ok (.aload_n 0, 1) := by decide +kernel
theorem dX1_takeKey_22 : decode cX1_takeKey 22 = .ok (.getfield 12, 3) := by decide +kernel
theorem dX1_takeKey_25 : decode cX1_takeKey 25 = .ok (.aload_n 1, 1) := by decide +kernel
theorem dX1_takeKey_26 : decode cX1_takeKey 26 = .ok (.iconst 0, 1) := by decide +kernel
theorem dX1_takeKey_27 : decode cX1_takeKey 27 = .ok (.iload_n 2, 1) := by decide +kernel
theorem dX1_takeKey_28 : decode cX1_takeKey 28 = .ok (.invokevirtual 49, 3) := by decide +kernel
theorem dX1_takeKey_31 : decode cX1_takeKey 31 = .ok (.aload_n 0, 1) := by decide +kernel
theorem dX1_takeKey_32 : decode cX1_takeKey 32 = .ok (.getfield 12, 3) := by decide +kernel
theorem dX1_takeKey_35 : decode cX1_takeKey 35 = .ok (.aload_n 0, 1) := by decide +kernel
theorem dX1_takeKey_36 : decode cX1_takeKey 36 = .ok (.getfield 18, 3) := by decide +kernel
theorem dX1_takeKey_39 : decode cX1_takeKey 39 = .ok (.invokevirtual 53, 3) := by decide +kernel
theorem dX1_takeKey_42 : decode cX1_takeKey 42 = .ok (.goto 14, 3) := by decide +kernel
theorem dX1_takeKey_45 : decode cX1_takeKey 45 = .ok (.aload_n 1, 1) := by decide +kernel
theorem dX1_takeKey_46 : decode cX1_takeKey 46 = .ok (.iconst 0, 1) := by decide +kernel
theorem dX1_takeKey_47 : decode cX1_takeKey 47 = .ok (.aload_n 0, 1) := by decide +kernel
theorem dX1_takeKey_48 : decode cX1_takeKey 48 = .ok (.getfield 18, 3) := by decide +kernel
theorem dX1_takeKey_51 : decode cX1_takeKey 51 = .ok (.iconst 0, 1) := by decide +kernel
theorem dX1_takeKey_52 : decode cX1_takeKey 52 = .ok (.iload_n 2, 1) := by decide +kernel
theorem dX1_takeKey_53 : decode cX1_takeKey 53 = .ok (.invokestatic 57, 3) := by decide +kernel
theorem dX1_takeKey_56 : decode cX1_takeKey 56 = .ok (.aload_n 0, 1) := by decide +kernel
theorem dX1_takeKey_57 : decode cX1_takeKey 57 = .ok (.iload_n 2, 1) := by decide +kernel
theorem dX1_takeKey_58 : decode cX1_takeKey 58 = .ok (.putfield 61, 3) := by decide +kernel
theorem dX1_takeKey_61 : decode cX1_takeKey 61 = .ok (.return_, 1) := by decide +kernel
theorem dX1_numberOf_0 : decode cX1_numberOf 0 = .ok (.iconst 0, 1) := by decide +kernel
theorem dX1_numberOf_1 : decode cX1_numberOf 1 = .ok (.istore_n 3, 1) := by decide +kernel
theorem dX1_numberOf_2 : decode cX1_numberOf 2 = .ok (.iload_n 3, 1) := by decide +kernel
theorem dX1_numberOf_3 : decode cX1_numberOf 3 = .ok (.aload_n 0, 1) := by decide +kernel
theorem dX1_numberOf_4 : decode cX1_numberOf 4 = .ok (.getfield 65, 3) := by decide +kernel
theorem dX1_numberOf_7 : decode cX1_numberOf 7 = .ok (.if_icmp .ge 56, 3) := by decide +kernel
theorem dX1_numberOf_10 : decode cX1_numberOf 10 = .ok (.iload_n 3, 1) := by decide +kernel
theorem dX1_numberOf_11 : decode cX1_numberOf 11 = .ok (.sipush 200, 3) := by decide +kernel
theorem dX1_numberOf_14 : decode cX1_numberOf 14 = .ok (.if_icmp .ge 49, 3) := by decide +kernel
theorem dX1_numberOf_17 : decode cX1_numberOf 17 = .ok (.aload_n 0, 1) := by decide +kernel
theorem dX1_numberOf_18 : decode cX1_numberOf 18 = .ok (.getfield 24, 3) := by decide +kernel
theorem dX1_numberOf_21 : decode cX1_numberOf 21 = .ok (.iload_n 3, 1) := by decide +kernel
theorem dX1_numberOf_22 : decode cX1_numberOf 22 = .ok (.aaload, 1) := by decide +kernel
theorem dX1_numberOf_23 : decode cX1_numberOf 23 = .ok (.astore 4, 2) := by decide +kernel
theorem dX1_numberOf_25 : decode cX1_numberOf 25 = .ok (.aload 4, 2) := by decide +kernel
theorem dX1_numberOf_27 : decode cX1_numberOf 27 = .ok (.ifnull 30, 3) := by decide +kernel
theorem dX1_numberOf_30 : decode cX1_numberOf 30 = .ok (.aload 4, 2) := by decide +kernel
theorem dX1_numberOf_32 : decode cX1_numberOf 32 = .ok (.getfield 68, 3) := by decide +kernel
theorem dX1_numberOf_35 : decode cX1_numberOf 35 = .ok (.arraylength, 1) := by decide +kernel
theorem dX1_numberOf_36 : decode cX1_numberOf 36 = .ok (.iload_n 2, 1) := by decide +kernel
theorem dX1_numberOf_37 : decode cX1_numberOf 37 = .ok (.if_icmp .ne 20, 3) := by decide +kernel
theorem dX1_numberOf_40 : decode cX1_numberOf 40 = .ok (.aload 4, 2) := by decide +kernel
theorem dX1_numberOf_42 : decode cX1_numberOf 42 = .ok (.getfield 68, 3) := by decide +kernel
theorem dX1_numberOf_45 : decode cX1_numberOf 45 = .ok (.iconst 0, 1) := by decide +kernel
theorem dX1_numberOf_46 : decode cX1_numberOf 46 = .ok (.aload_n 1, 1) := by decide +kernel
theorem dX1_numberOf_47 : decode cX1_numberOf 47 = .ok (.iconst 0, 1) := by decide +kernel
theorem dX1_numberOf_48 : decode cX1_numberOf 48 = .ok (.iload_n 2, 1) := by decide +kernel
theorem dX1_numberOf_49 : decode cX1_numberOf 49 = .ok (.invokestatic 71, 3) := by decide +kernel
theorem dX1_numberOf_52 : decode cX1_numberOf 52 = .ok (.ifCond .eq 5, 3) := by decide +kernel
theorem dX1_numberOf_55 : decode cX1_numberOf 55 = .ok (.iload_n 3, 1) := by decide +kernel
theorem dX1_numberOf_56 : decode cX1_numberOf 56 = .ok (.ireturn, 1) := by decide +kernel
theorem dX1_numberOf_57 : decode cX1_numberOf 57 = .ok (.iinc 3 1, 3) := by decide +kernel
theorem dX1_numberOf_60 : decode cX1_numberOf 60 = .ok (.goto (-58), 3) := by decide +kernel
theorem dX1_numberOf_63 : decode cX1_numberOf 63 = .ok (.iconst (-1), 1) := by decide +kernel
theorem dX1_numberOf_64 : decode cX1_numberOf 64 = .ok (.ireturn, 1) := by decide +kernel
theorem dX1_addEntry_0 : decode cX1_addEntry 0 = .ok (.aload_n 0, 1) := by decide +kernel
theorem dX1_addEntry_1 : decode cX1_addEntry 1 = .ok (.getfield 65, 3) := by decide +kernel
theorem dX1_addEntry_4 : decode cX1_addEntry 4 = .ok (.sipush 200, 3) := by decide +kernel
theorem dX1_addEntry_7 : decode cX1_addEntry 7 = .ok (.if_icmp .lt 5, 3) := by decide +kernel
theorem dX1_addEntry_10 : decode cX1_addEntry 10 = .ok (.iconst (-1), 1) := by decide +kernel
theorem dX1_addEntry_11 : decode cX1_addEntry 11 = .ok (.ireturn, 1) := by decide +kernel
theorem dX1_addEntry_12 : decode cX1_addEntry 12 = .ok (.aload_n 0, 1) := by decide +kernel
theorem dX1_addEntry_13 : decode cX1_addEntry 13 = .ok (.getfield 65, 3) := by decide +kernel
theorem dX1_addEntry_16 : decode cX1_addEntry 16 = .ok (.istore_n 3, 1) := by decide +kernel
theorem dX1_addEntry_17 : decode cX1_addEntry 17 = .ok (.aload_n 0, 1) := by decide +kernel
theorem dX1_addEntry_18 : decode cX1_addEntry 18 = .ok (.getfield 24, 3) := by decide +kernel
theorem dX1_addEntry_21 : decode cX1_addEntry 21 = .ok (.iload_n 3, 1) := by decide +kernel
theorem dX1_addEntry_22 : decode cX1_addEntry 22 = .ok (.new 22, 3) := by decide +kernel
theorem dX1_addEntry_25 : decode cX1_addEntry 25 = .ok (.dup, 1) := by decide +kernel
theorem dX1_addEntry_26 : decode cX1_addEntry 26 = .ok (.aload_n 1, 1) := by decide +kernel
theorem dX1_addEntry_27 : decode cX1_addEntry 27 = .ok (.iload_n 2, 1) := by decide +kernel
theorem dX1_addEntry_28 : decode cX1_addEntry 28 = .ok (.invokespecial 75, 3) := by decide +kernel
theorem dX1_addEntry_31 : decode cX1_addEntry 31 = .ok (.aastore, 1) := by decide +kernel
theorem dX1_addEntry_32 : decode cX1_addEntry 32 = .ok (.aload_n 0, 1) := by decide +kernel
theorem dX1_addEntry_33 : decode cX1_addEntry 33 = .ok (.dup, 1) := by decide +kernel
theorem dX1_addEntry_34 : decode cX1_addEntry 34 = .ok (.getfield 65, 3) := by decide +kernel
theorem dX1_addEntry_37 : decode cX1_addEntry 37 = .ok (.iconst 1, 1) := by decide +kernel
theorem dX1_addEntry_38 : decode cX1_addEntry 38 = .ok (.iadd, 1) := by decide +kernel
theorem dX1_addEntry_39 : decode cX1_addEntry 39 = .ok (.putfield 65, 3) := by decide +kernel
theorem dX1_addEntry_42 : decode cX1_addEntry 42 = .ok (.aload_n 0, 1) := by decide +kernel
theorem dX1_addEntry_43 : decode cX1_addEntry 43 = .ok (.getfield 12, 3) := by decide +kernel
theorem dX1_addEntry_46 : decode cX1_addEntry 46 = .ok (.invokevirtual 46, 3) := by decide +kernel
theorem dX1_addEntry_49 : decode cX1_addEntry 49 = .ok (.aload_n 0, 1) := by decide +kernel
theorem dX1_addEntry_50 : decode cX1_addEntry 50 = .ok (.getfield 12, 3) := by decide +kernel
theorem dX1_addEntry_53 : decode cX1_addEntry 53 = .ok (.iconst 0, 1) := by decide +kernel
theorem dX1_addEntry_54 : decode cX1_addEntry 54 = .ok (.invokevirtual 78, 3) := by decide +kernel
theorem dX1_addEntry_57 : decode cX1_addEntry 57 = .ok (.aload_n 0, 1) := by decide +kernel
theorem dX1_addEntry_58 : decode cX1_addEntry 58 = .ok (.getfield 12, 3) := by decide +kernel
theorem dX1_addEntry_61 : decode cX1_addEntry 61 = .ok (.aload_n 1, 1) := by decide +kernel
theorem dX1_addEntry_62 : decode cX1_addEntry 62 = .ok (.iconst 0, 1) := by decide +kernel
theorem dX1_addEntry_63 : decode cX1_addEntry 63 = .ok (.iload_n 2, 1) := by decide +kernel
theorem dX1_addEntry_64 : decode cX1_addEntry 64 = .ok (.invokevirtual 49, 3) := by decide +kernel
theorem dX1_addEntry_67 : decode cX1_addEntry 67 = .ok (.aload_n 0, 1) := by decide +kernel
theorem dX1_addEntry_68 : decode cX1_addEntry 68 = .ok (.getfield 12, 3) := by decide +kernel
theorem dX1_addEntry_71 : decode cX1_addEntry 71 = .ok (.aload_n 0, 1) := by decide +kernel
theorem dX1_addEntry_72 : decode cX1_addEntry 72 = .ok (.getfield 34, 3) := by decide +kernel
theorem dX1_addEntry_75 : decode cX1_addEntry 75 = .ok (.invokevirtual 53, 3) := by decide +kernel
theorem dX1_addEntry_78 : decode cX1_addEntry 78 = .ok (.aload_n 0, 1) := by decide +kernel
theorem dX1_addEntry_79 : decode cX1_addEntry 79 = .ok (.iload_n 3, 1) := by decide +kernel
theorem dX1_addEntry_80 : decode cX1_addEntry 80 = .ok (.aload_n 0, 1) := by decide +kernel
theorem dX1_addEntry_81 : decode cX1_addEntry 81 = .ok (.getfield 65, 3) := by decide +kernel
theorem dX1_addEntry_84 : decode cX1_addEntry 84 = .ok (.invokevirtual 82, 3) := by decide +kernel
theorem dX1_addEntry_87 : decode cX1_addEntry 87 = .ok (.aload_n 0, 1) := by decide +kernel
theorem dX1_addEntry_88 : decode cX1_addEntry 88 = .ok (.aload_n 0, 1) := by decide +kernel
theorem dX1_addEntry_89 : decode cX1_addEntry 89 = .ok (.getfield 65, 3) := by decide +kernel
theorem dX1_addEntry_92 : decode cX1_addEntry 92 = .ok (.invokevirtual 86, 3) := by decide +kernel
theorem dX1_addEntry_95 : decode cX1_addEntry 95 = .ok (.iload_n 3, 1) := by decide +kernel
theorem dX1_addEntry_96 : decode cX1_addEntry 96 = .ok (.ireturn, 1) := by decide +kernel
theorem dX1_joinFulls_0 : decode cX1_joinFulls 0 = .ok (.iconst 1, 1) := by decide +kernel
theorem dX1_joinFulls_1 : decode cX1_joinFulls 1 = .ok (.istore_n 2, 1) := by decide +kernel
theorem dX1_joinFulls_2 : decode cX1_joinFulls 2 = .ok (.iload_n 2, 1) := by decide +kernel
theorem dX1_joinFulls_3 : decode cX1_joinFulls 3 = .ok (.sipush 200, 3) := by decide +kernel
theorem dX1_joinFulls_6 : decode cX1_joinFulls 6 = .ok (.if_icmp .ge 62, 3) := by decide +kernel
theorem dX1_joinFulls_9 : decode cX1_joinFulls 9 = .ok (.iload_n 1, 1) := by decide +kernel
theorem dX1_joinFulls_10 : decode cX1_joinFulls 10 = .ok (.iconst 2, 1) := by decide +kernel
theorem dX1_joinFulls_11 : decode cX1_joinFulls 11 = .ok (.iload_n 2, 1) := by decide +kernel
theorem dX1_joinFulls_12 : decode cX1_joinFulls 12 = .ok (.imul, 1) := by decide +kernel
theorem dX1_joinFulls_13 : decode cX1_joinFulls 13 = .ok (.iconst 1, 1) := by decide +kernel
theorem dX1_joinFulls_14 : decode cX1_joinFulls 14 = .ok (.isub, 1) := by decide +kernel
theorem dX1_joinFulls_15 : decode cX1_joinFulls 15 = .ok (.iand, 1) := by decide +kernel
theorem dX1_joinFulls_16 : decode cX1_joinFulls 16 = .ok (.ifCond .ne 52, 3) := by decide +kernel
theorem dX1_joinFulls_19 : decode cX1_joinFulls 19 = .ok (.iload_n 1, 1) := by decide +kernel
theorem dX1_joinFulls_20 : decode cX1_joinFulls 20 = .ok (.iload_n 2, 1) := by decide +kernel
theorem dX1_joinFulls_21 : decode cX1_joinFulls 21 = .ok (.isub, 1) := by decide +kernel
theorem dX1_joinFulls_22 : decode cX1_joinFulls 22 = .ok (.istore_n 3, 1) := by decide +kernel
theorem dX1_joinFulls_23 : decode cX1_joinFulls 23 = .ok (.iload_n 3, 1) := by decide +kernel
theorem dX1_joinFulls_24 : decode cX1_joinFulls 24 = .ok (.iload_n 2, 1) := by decide +kernel
theorem dX1_joinFulls_25 : decode cX1_joinFulls 25 = .ok (.isub, 1) := by decide +kernel
theorem dX1_joinFulls_26 : decode cX1_joinFulls 26 = .ok (.istore 4, 2) := by decide +kernel
theorem dX1_joinFulls_28 : decode cX1_joinFulls 28 = .ok (.aload_n 0, 1) := by decide +kernel
theorem dX1_joinFulls_29 : decode cX1_joinFulls 29 = .ok (.getfield 12, 3) := by decide +kernel
theorem dX1_joinFulls_32 : decode cX1_joinFulls 32 = .ok (.aload_n 0, 1) := by decide +kernel
theorem dX1_joinFulls_33 : decode cX1_joinFulls 33 = .ok (.iload 4, 2) := by decide +kernel
theorem dX1_joinFulls_35 : decode cX1_joinFulls 35 = .ok (.iload_n 3, 1) := by decide +kernel
theorem dX1_joinFulls_36 : decode cX1_joinFulls 36 = .ok (.invokevirtual 89, 3) := by decide +kernel
theorem dX1_joinFulls_39 : decode cX1_joinFulls 39 = .ok (.iconst 0, 1) := by decide +kernel
theorem dX1_joinFulls_40 : decode cX1_joinFulls 40 = .ok (.aload_n 0, 1) := by decide +kernel
theorem dX1_joinFulls_41 : decode cX1_joinFulls 41 = .ok (.iload_n 3, 1) := by decide +kernel
theorem dX1_joinFulls_42 : decode cX1_joinFulls 42 = .ok (.iload_n 1, 1) := by decide +kernel
theorem dX1_joinFulls_43 : decode cX1_joinFulls 43 = .ok (.invokevirtual 89, 3) := by decide +kernel
theorem dX1_joinFulls_46 : decode cX1_joinFulls 46 = .ok (.iconst 0, 1) := by decide +kernel
theorem dX1_joinFulls_47 : decode cX1_joinFulls 47 = .ok (.aload_n 0, 1) := by decide +kernel
theorem dX1_joinFulls_48 : decode cX1_joinFulls 48 = .ok (.getfield 34, 3) := by decide +kernel
theorem dX1_joinFulls_51 : decode cX1_joinFulls 51 = .ok (.invokevirtual 93, 3) := by decide +kernel
theorem dX1_joinFulls_54 : decode cX1_joinFulls 54 = .ok (.aload_n 0, 1) := by decide +kernel
theorem dX1_joinFulls_55 : decode cX1_joinFulls 55 = .ok (.iload 4, 2) := by decide +kernel
theorem dX1_joinFulls_57 : decode cX1_joinFulls 57 = .ok (.iload_n 1, 1) := by decide +kernel
theorem dX1_joinFulls_58 : decode cX1_joinFulls 58 = .ok (.invokevirtual 82, 3) := by decide +kernel
theorem dX1_joinFulls_61 : decode cX1_joinFulls 61 = .ok (.iload_n 2, 1) := by decide +kernel
theorem dX1_joinFulls_62 : decode cX1_joinFulls 62 = .ok (.iconst 2, 1) := by decide +kernel
theorem dX1_joinFulls_63 : decode cX1_joinFulls 63 = .ok (.imul, 1) := by decide +kernel
theorem dX1_joinFulls_64 : decode cX1_joinFulls 64 = .ok (.istore_n 2, 1) := by decide +kernel
theorem dX1_joinFulls_65 : decode cX1_joinFulls 65 = .ok (.goto (-63), 3) := by decide +kernel
theorem dX1_joinFulls_68 : decode cX1_joinFulls 68 = .ok (.return_, 1) := by decide +kernel
theorem dX1_keepFull_0 : decode cX1_keepFull 0 = .ok (.iload_n 1, 1) := by decide +kernel
theorem dX1_keepFull_1 : decode cX1_keepFull 1 = .ok (.iload_n 2, 1) := by decide +kernel
theorem dX1_keepFull_2 : decode cX1_keepFull 2 = .ok (.iadd, 1) := by decide +kernel
theorem dX1_keepFull_3 : decode cX1_keepFull 3 = .ok (.iconst 1, 1) := by decide +kernel
theorem dX1_keepFull_4 : decode cX1_keepFull 4 = .ok (.isub, 1) := by decide +kernel
theorem dX1_keepFull_5 : decode cX1_keepFull 5 = .ok (.istore_n 3, 1) := by decide +kernel
theorem dX1_keepFull_6 : decode cX1_keepFull 6 = .ok (.iload_n 3, 1) := by decide +kernel
theorem dX1_keepFull_7 : decode cX1_keepFull 7 = .ok (.ifCond .lt 31, 3) := by decide +kernel
theorem dX1_keepFull_10 : decode cX1_keepFull 10 = .ok (.iload_n 3, 1) := by decide +kernel
theorem dX1_keepFull_11 : decode cX1_keepFull 11 = .ok (.aload_n 0, 1) := by decide +kernel
theorem dX1_keepFull_12 : decode cX1_keepFull 12 = .ok (.getfield 28, 3) := by decide +kernel
theorem dX1_keepFull_15 : decode cX1_keepFull 15 = .ok (.arraylength, 1) := by decide +kernel
theorem dX1_keepFull_16 : decode cX1_keepFull 16 = .ok (.if_icmp .ge 22, 3) := by decide +kernel
theorem dX1_keepFull_19 : decode cX1_keepFull 19 = .ok (.aload_n 0, 1) := by decide +kernel
theorem dX1_keepFull_20 : decode cX1_keepFull 20 = .ok (.getfield 28, 3) := by decide +kernel
theorem dX1_keepFull_23 : decode cX1_keepFull 23 = .ok (.iload_n 3, 1) := by decide +kernel
theorem dX1_keepFull_24 : decode cX1_keepFull 24 = .ok (.new 22, 3) := by decide +kernel
theorem dX1_keepFull_27 : decode cX1_keepFull 27 = .ok (.dup, 1) := by decide +kernel
theorem dX1_keepFull_28 : decode cX1_keepFull 28 = .ok (.aload_n 0, 1) := by decide +kernel
theorem dX1_keepFull_29 : decode cX1_keepFull 29 = .ok (.getfield 34, 3) := by decide +kernel
theorem dX1_keepFull_32 : decode cX1_keepFull 32 = .ok (.bipush 32, 2) := by decide +kernel
theorem dX1_keepFull_34 : decode cX1_keepFull 34 = .ok (.invokespecial 75, 3) := by decide +kernel
theorem dX1_keepFull_37 : decode cX1_keepFull 37 = .ok (.aastore, 1) := by decide +kernel
theorem dX1_keepFull_38 : decode cX1_keepFull 38 = .ok (.return_, 1) := by decide +kernel
theorem dX1_fullOf_0 : decode cX1_fullOf 0 = .ok (.iload_n 1, 1) := by decide +kernel
theorem dX1_fullOf_1 : decode cX1_fullOf 1 = .ok (.iload_n 2, 1) := by decide +kernel
theorem dX1_fullOf_2 : decode cX1_fullOf 2 = .ok (.iadd, 1) := by decide +kernel
theorem dX1_fullOf_3 : decode cX1_fullOf 3 = .ok (.iconst 1, 1) := by decide +kernel
theorem dX1_fullOf_4 : decode cX1_fullOf 4 = .ok (.isub, 1) := by decide +kernel
theorem dX1_fullOf_5 : decode cX1_fullOf 5 = .ok (.istore_n 3, 1) := by decide +kernel
theorem dX1_fullOf_6 : decode cX1_fullOf 6 = .ok (.iload_n 3, 1) := by decide +kernel
theorem dX1_fullOf_7 : decode cX1_fullOf 7 = .ok (.ifCond .lt 12, 3) := by decide +kernel
theorem dX1_fullOf_10 : decode cX1_fullOf 10 = .ok (.iload_n 3, 1) := by decide +kernel
theorem dX1_fullOf_11 : decode cX1_fullOf 11 = .ok (.aload_n 0, 1) := by decide +kernel
theorem dX1_fullOf_12 : decode cX1_fullOf 12 = .ok (.getfield 28, 3) := by decide +kernel
theorem dX1_fullOf_15 : decode cX1_fullOf 15 = .ok (.arraylength, 1) := by decide +kernel
theorem dX1_fullOf_16 : decode cX1_fullOf 16 = .ok (.if_icmp .lt 7, 3) := by decide +kernel
theorem dX1_fullOf_19 : decode cX1_fullOf 19 = .ok (.aconst_null, 1) := by decide +kernel
theorem dX1_fullOf_20 : decode cX1_fullOf 20 = .ok (.goto 9, 3) := by decide +kernel
theorem dX1_fullOf_23 : decode cX1_fullOf 23 = .ok (.aload_n 0, 1) := by decide +kernel
theorem dX1_fullOf_24 : decode cX1_fullOf 24 = .ok (.getfield 28, 3) := by decide +kernel
theorem dX1_fullOf_27 : decode cX1_fullOf 27 = .ok (.iload_n 3, 1) := by decide +kernel
theorem dX1_fullOf_28 : decode cX1_fullOf 28 = .ok (.aaload, 1) := by decide +kernel
theorem dX1_fullOf_29 : decode cX1_fullOf 29 = .ok (.astore 4, 2) := by decide +kernel
theorem dX1_fullOf_31 : decode cX1_fullOf 31 = .ok (.aload 4, 2) := by decide +kernel
theorem dX1_fullOf_33 : decode cX1_fullOf 33 = .ok (.ifnonnull 7, 3) := by decide +kernel
theorem dX1_fullOf_36 : decode cX1_fullOf 36 = .ok (.aconst_null, 1) := by decide +kernel
theorem dX1_fullOf_37 : decode cX1_fullOf 37 = .ok (.goto 8, 3) := by decide +kernel
theorem dX1_fullOf_40 : decode cX1_fullOf 40 = .ok (.aload 4, 2) := by decide +kernel
theorem dX1_fullOf_42 : decode cX1_fullOf 42 = .ok (.getfield 68, 3) := by decide +kernel
theorem dX1_fullOf_45 : decode cX1_fullOf 45 = .ok (.areturn, 1) := by decide +kernel
theorem dX1_entryAt_0 : decode cX1_entryAt 0 = .ok (.iload_n 1, 1) := by decide +kernel
theorem dX1_entryAt_1 : decode cX1_entryAt 1 = .ok (.ifCond .lt 18, 3) := by decide +kernel
theorem dX1_entryAt_4 : decode cX1_entryAt 4 = .ok (.iload_n 1, 1) := by decide +kernel
theorem dX1_entryAt_5 : decode cX1_entryAt 5 = .ok (.aload_n 0, 1) := by decide +kernel
theorem dX1_entryAt_6 : decode cX1_entryAt 6 = .ok (.getfield 65, 3) := by decide +kernel
theorem dX1_entryAt_9 : decode cX1_entryAt 9 = .ok (.if_icmp .ge 10, 3) := by decide +kernel
theorem dX1_entryAt_12 : decode cX1_entryAt 12 = .ok (.iload_n 1, 1) := by decide +kernel
theorem dX1_entryAt_13 : decode cX1_entryAt 13 = .ok (.sipush 200, 3) := by decide +kernel
theorem dX1_entryAt_16 : decode cX1_entryAt 16 = .ok (.if_icmp .lt 7, 3) := by decide +kernel
theorem dX1_entryAt_19 : decode cX1_entryAt 19 = .ok (.aconst_null, 1) := by decide +kernel
theorem dX1_entryAt_20 : decode cX1_entryAt 20 = .ok (.goto 9, 3) := by decide +kernel
theorem dX1_entryAt_23 : decode cX1_entryAt 23 = .ok (.aload_n 0, 1) := by decide +kernel
theorem dX1_entryAt_24 : decode cX1_entryAt 24 = .ok (.getfield 24, 3) := by decide +kernel
theorem dX1_entryAt_27 : decode cX1_entryAt 27 = .ok (.iload_n 1, 1) := by decide +kernel
theorem dX1_entryAt_28 : decode cX1_entryAt 28 = .ok (.aaload, 1) := by decide +kernel
theorem dX1_entryAt_29 : decode cX1_entryAt 29 = .ok (.areturn, 1) := by decide +kernel
theorem dX1_leafAt_0 : decode cX1_leafAt 0 = .ok (.aload_n 0, 1) := by decide +kernel
theorem dX1_leafAt_1 : decode cX1_leafAt 1 = .ok (.iload_n 1, 1) := by decide +kernel
theorem dX1_leafAt_2 : decode cX1_leafAt 2 = .ok (.iload_n 1, 1) := by decide +kernel
theorem dX1_leafAt_3 : decode cX1_leafAt 3 = .ok (.iconst 1, 1) := by decide +kernel
theorem dX1_leafAt_4 : decode cX1_leafAt 4 = .ok (.iadd, 1) := by decide +kernel
theorem dX1_leafAt_5 : decode cX1_leafAt 5 = .ok (.invokevirtual 89, 3) := by decide +kernel
theorem dX1_leafAt_8 : decode cX1_leafAt 8 = .ok (.areturn, 1) := by decide +kernel
theorem dX1_numberOfLeaf_0 : decode cX1_numberOfLeaf 0 = .ok (.iconst 0, 1) := by decide +kernel
theorem dX1_numberOfLeaf_1 : decode cX1_numberOfLeaf 1 = .ok (.istore_n 2, 1) := by decide +kernel
theorem dX1_numberOfLeaf_2 : decode cX1_numberOfLeaf 2 = .ok (.iload_n 2, 1) := by decide +kernel
theorem dX1_numberOfLeaf_3 : decode cX1_numberOfLeaf 3 = .ok (.aload_n 0, 1) := by decide +kernel
theorem dX1_numberOfLeaf_4 : decode cX1_numberOfLeaf 4 = .ok (.getfield 97, 3) := by decide +kernel
theorem dX1_numberOfLeaf_7 : decode cX1_numberOfLeaf 7 = .ok (.if_icmp .ge 27, 3) := by decide +kernel
theorem dX1_numberOfLeaf_10 : decode cX1_numberOfLeaf 10 = .ok (.aload_n 0, 1) := by decide +kernel
theorem dX1_numberOfLeaf_11 : decode cX1_numberOfLeaf 11 = .ok (.iload_n 2, 1) := by decide +kernel
theorem dX1_numberOfLeaf_12 : decode cX1_numberOfLeaf 12 = .ok (.invokevirtual 100, 3) := by decide +kernel
theorem dX1_numberOfLeaf_15 : decode cX1_numberOfLeaf 15 = .ok (.iconst 0, 1) := by decide +kernel
theorem dX1_numberOfLeaf_16 : decode cX1_numberOfLeaf 16 = .ok (.aload_n 1, 1) := by decide +kernel
theorem dX1_numberOfLeaf_17 : decode cX1_numberOfLeaf 17 = .ok (.iconst 0, 1) := by decide +kernel
theorem dX1_numberOfLeaf_18 : decode cX1_numberOfLeaf 18 = .ok (.bipush 32, 2) := by decide +kernel
theorem dX1_numberOfLeaf_20 : decode cX1_numberOfLeaf 20 = .ok (.invokestatic 71, 3) := by decide +kernel
theorem dX1_numberOfLeaf_23 : decode cX1_numberOfLeaf 23 = .ok (.ifCond .eq 5, 3) := by decide +kernel
theorem dX1_numberOfLeaf_26 : decode cX1_numberOfLeaf 26 = .ok (.iload_n 2, 1) := by decide +kernel
theorem dX1_numberOfLeaf_27 : decode cX1_numberOfLeaf 27 = .ok (.ireturn, 1) := by decide +kernel
theorem dX1_numberOfLeaf_28 : decode cX1_numberOfLeaf 28 = .ok (.iinc 2 1, 3) := by decide +kernel
theorem dX1_numberOfLeaf_31 : decode cX1_numberOfLeaf 31 = .ok (.goto (-29), 3) := by decide +kernel
theorem dX1_numberOfLeaf_34 : decode cX1_numberOfLeaf 34 = .ok (.iconst (-1), 1) := by decide +kernel
theorem dX1_numberOfLeaf_35 : decode cX1_numberOfLeaf 35 = .ok (.ireturn, 1) := by decide +kernel
theorem dX1_rootOf_0 : decode cX1_rootOf 0 = .ok (.iload_n 1, 1) := by decide +kernel
theorem dX1_rootOf_1 : decode cX1_rootOf 1 = .ok (.iload_n 2, 1) := by decide +kernel
theorem dX1_rootOf_2 : decode cX1_rootOf 2 = .ok (.if_icmp .lt 26, 3) := by decide +kernel
theorem dX1_rootOf_5 : decode cX1_rootOf 5 = .ok (.aload_n 0, 1) := by decide +kernel
theorem dX1_rootOf_6 : decode cX1_rootOf 6 = .ok (.getfield 12, 3) := by decide +kernel
theorem dX1_rootOf_9 : decode cX1_rootOf 9 = .ok (.invokevirtual 46, 3) := by decide +kernel
theorem dX1_rootOf_12 : decode cX1_rootOf 12 = .ok (.aload_n 0, 1) := by decide +kernel
theorem dX1_rootOf_13 : decode cX1_rootOf 13 = .ok (.getfield 12, 3) := by decide +kernel
theorem dX1_rootOf_16 : decode cX1_rootOf 16 = .ok (.aload_n 0, 1) := by decide +kernel
theorem dX1_rootOf_17 : decode cX1_rootOf 17 = .ok (.getfield 34, 3) := by decide +kernel
theorem dX1_rootOf_20 : decode cX1_rootOf 20 = .ok (.invokevirtual 53, 3) := by decide +kernel
theorem dX1_rootOf_23 : decode cX1_rootOf 23 = .ok (.aload_n 0, 1) := by decide +kernel
theorem dX1_rootOf_24 : decode cX1_rootOf 24 = .ok (.getfield 34, 3) := by decide +kernel
theorem dX1_rootOf_27 : decode cX1_rootOf 27 = .ok (.areturn, 1) := by decide +kernel
theorem dX1_rootOf_28 : decode cX1_rootOf 28 = .ok (.iload_n 2, 1) := by decide +kernel
theorem dX1_rootOf_29 : decode cX1_rootOf 29 = .ok (.istore_n 3, 1) := by decide +kernel
theorem dX1_rootOf_30 : decode cX1_rootOf 30 = .ok (.iconst 1, 1) := by decide +kernel
theorem dX1_rootOf_31 : decode cX1_rootOf 31 = .ok (.istore 4, 2) := by decide +kernel
theorem dX1_rootOf_33 : decode cX1_rootOf 33 = .ok (.iload 4, 2) := by decide +kernel
theorem dX1_rootOf_35 : decode cX1_rootOf 35 = .ok (.sipush 200, 3) := by decide +kernel
theorem dX1_rootOf_38 : decode cX1_rootOf 38 = .ok (.if_icmp .gt 82, 3) := by decide +kernel
theorem dX1_rootOf_41 : decode cX1_rootOf 41 = .ok (.iload_n 3, 1) := by decide +kernel
theorem dX1_rootOf_42 : decode cX1_rootOf 42 = .ok (.iload_n 1, 1) := by decide +kernel
theorem dX1_rootOf_43 : decode cX1_rootOf 43 = .ok (.if_icmp .le 77, 3) := by decide +kernel
theorem dX1_rootOf_46 : decode cX1_rootOf 46 = .ok (.iload_n 2, 1) := by decide +kernel
theorem dX1_rootOf_47 : decode cX1_rootOf 47 = .ok (.iload_n 1, 1) := by decide +kernel
theorem dX1_rootOf_48 : decode cX1_rootOf 48 = .ok (.isub, 1) := by decide +kernel
theorem dX1_rootOf_49 : decode cX1_rootOf 49 = .ok (.iload 4, 2) := by decide +kernel
theorem dX1_rootOf_51 : decode cX1_rootOf 51 = .ok (.iand, 1) := by decide +kernel
theorem dX1_rootOf_52 : decode cX1_rootOf 52 = .ok (.ifCond .eq 59, 3) := by decide +kernel
theorem dX1_rootOf_55 : decode cX1_rootOf 55 = .ok (.aload_n 0, 1) := by decide +kernel
theorem dX1_rootOf_56 : decode cX1_rootOf 56 = .ok (.iload_n 3, 1) := by decide +kernel
theorem dX1_rootOf_57 : decode cX1_rootOf 57 = .ok (.iload 4, 2) := by decide +kernel
theorem dX1_rootOf_59 : decode cX1_rootOf 59 = .ok (.isub, 1) := by decide +kernel
theorem dX1_rootOf_60 : decode cX1_rootOf 60 = .ok (.iload_n 3, 1) := by decide +kernel
theorem dX1_rootOf_61 : decode cX1_rootOf 61 = .ok (.invokevirtual 89, 3) := by decide +kernel
theorem dX1_rootOf_64 : decode cX1_rootOf 64 = .ok (.astore 5, 2) := by decide +kernel
theorem dX1_rootOf_66 : decode cX1_rootOf 66 = .ok (.iload_n 3, 1) := by decide +kernel
theorem dX1_rootOf_67 : decode cX1_rootOf 67 = .ok (.iload_n 2, 1) := by decide +kernel
theorem dX1_rootOf_68 : decode cX1_rootOf 68 = .ok (.if_icmp .ne 19, 3) := by decide +kernel
theorem dX1_rootOf_71 : decode cX1_rootOf 71 = .ok (.aload 5, 2) := by decide +kernel
theorem dX1_rootOf_73 : decode cX1_rootOf 73 = .ok (.iconst 0, 1) := by decide +kernel
theorem dX1_rootOf_74 : decode cX1_rootOf 74 = .ok (.aload_n 0, 1) := by decide +kernel
theorem dX1_rootOf_75 : decode cX1_rootOf 75 = .ok (.getfield 34, 3) := by decide +kernel
theorem dX1_rootOf_78 : decode cX1_rootOf 78 = .ok (.iconst 0, 1) := by decide +kernel
theorem dX1_rootOf_79 : decode cX1_rootOf 79 = .ok (.bipush 32, 2) := by decide +kernel
theorem dX1_rootOf_81 : decode cX1_rootOf 81 = .ok (.invokestatic 57, 3) := by decide +kernel
theorem dX1_rootOf_84 : decode cX1_rootOf 84 = .ok (.goto 22, 3) := by decide +kernel
theorem dX1_rootOf_87 : decode cX1_rootOf 87 = .ok (.aload_n 0, 1) := by decide +kernel
theorem dX1_rootOf_88 : decode cX1_rootOf 88 = .ok (.getfield 12, 3) := by decide +kernel
theorem dX1_rootOf_91 : decode cX1_rootOf 91 = .ok (.aload 5, 2) := by decide +kernel
theorem dX1_rootOf_93 : decode cX1_rootOf 93 = .ok (.iconst 0, 1) := by decide +kernel
theorem dX1_rootOf_94 : decode cX1_rootOf 94 = .ok (.aload_n 0, 1) := by decide +kernel
theorem dX1_rootOf_95 : decode cX1_rootOf 95 = .ok (.getfield 34, 3) := by decide +kernel
theorem dX1_rootOf_98 : decode cX1_rootOf 98 = .ok (.iconst 0, 1) := by decide +kernel
theorem dX1_rootOf_99 : decode cX1_rootOf 99 = .ok (.aload_n 0, 1) := by decide +kernel
theorem dX1_rootOf_100 : decode cX1_rootOf 100 = .ok (.getfield 34, 3) := by decide +kernel
theorem dX1_rootOf_103 : decode cX1_rootOf 103 = .ok (.invokevirtual 93, 3) := by decide +kernel
theorem dX1_rootOf_106 : decode cX1_rootOf 106 = .ok (.iload_n 3, 1) := by decide +kernel
theorem dX1_rootOf_107 : decode cX1_rootOf 107 = .ok (.iload 4, 2) := by decide +kernel
theorem dX1_rootOf_109 : decode cX1_rootOf 109 = .ok (.isub, 1) := by decide +kernel
theorem dX1_rootOf_110 : decode cX1_rootOf 110 = .ok (.istore_n 3, 1) := by decide +kernel
theorem dX1_rootOf_111 : decode cX1_rootOf 111 = .ok (.iload 4, 2) := by decide +kernel
theorem dX1_rootOf_113 : decode cX1_rootOf 113 = .ok (.iconst 2, 1) := by decide +kernel
theorem dX1_rootOf_114 : decode cX1_rootOf 114 = .ok (.imul, 1) := by decide +kernel
theorem dX1_rootOf_115 : decode cX1_rootOf 115 = .ok (.istore 4, 2) := by decide +kernel
theorem dX1_rootOf_117 : decode cX1_rootOf 117 = .ok (.goto (-84), 3) := by decide +kernel
theorem dX1_rootOf_120 : decode cX1_rootOf 120 = .ok (.aload_n 0, 1) := by decide +kernel
theorem dX1_rootOf_121 : decode cX1_rootOf 121 = .ok (.getfield 34, 3) := by decide +kernel
theorem dX1_rootOf_124 : decode cX1_rootOf 124 = .ok (.areturn, 1) := by decide +kernel
theorem dX1_writeDigests_0 : decode cX1_writeDigests 0 = .ok (.aload_n 2, 1) := by decide +kernel
theorem dX1_writeDigests_1 : decode cX1_writeDigests 1 = .ok (.iconst 0, 1) := by decide +kernel
theorem dX1_writeDigests_2 : decode cX1_writeDigests 2 = .ok (.putfield 104, 3) := by decide +kernel
theorem dX1_writeDigests_5 : decode cX1_writeDigests 5 = .ok (.aload_n 1, 1) := by decide +kernel
theorem dX1_writeDigests_6 : decode cX1_writeDigests 6 = .ok (.getfield 109, 3) := by decide +kernel
theorem dX1_writeDigests_9 : decode cX1_writeDigests 9 = .ok (.ifCond .eq 24, 3) := by decide +kernel
theorem dX1_writeDigests_12 : decode cX1_writeDigests 12 = .ok (.aload_n 2, 1) := by decide +kernel
theorem dX1_writeDigests_13 : decode cX1_writeDigests 13 = .ok (.aload_n 0, 1) := by decide +kernel
theorem dX1_writeDigests_14 : decode cX1_writeDigests 14 = .ok (.aload_n 1, 1) := by decide +kernel
theorem dX1_writeDigests_15 : decode cX1_writeDigests 15 = .ok (.getfield 115, 3) := by decide +kernel
theorem dX1_writeDigests_18 : decode cX1_writeDigests 18 = .ok (.l2i, 1) := by decide +kernel
theorem dX1_writeDigests_19 : decode cX1_writeDigests 19 = .ok (.aload_n 1, 1) := by decide +kernel
theorem dX1_writeDigests_20 : decode cX1_writeDigests 20 = .ok (.getfield 119, 3) := by decide +kernel
theorem dX1_writeDigests_23 : decode cX1_writeDigests 23 = .ok (.l2i, 1) := by decide +kernel
theorem dX1_writeDigests_24 : decode cX1_writeDigests 24 = .ok (.invokevirtual 122, 3) := by decide +kernel
theorem dX1_writeDigests_27 : decode cX1_writeDigests 27 = .ok (.iconst 0, 1) := by decide +kernel
theorem dX1_writeDigests_28 : decode cX1_writeDigests 28 = .ok (.bipush 32, 2) := by decide +kernel
theorem dX1_writeDigests_30 : decode cX1_writeDigests 30 = .ok (.invokevirtual 125, 3) := by decide +kernel
theorem dX1_writeDigests_33 : decode cX1_writeDigests 33 = .ok (.aload_n 1, 1) := by decide +kernel
theorem dX1_writeDigests_34 : decode cX1_writeDigests 34 = .ok (.getfield 126, 3) := by decide +kernel
theorem dX1_writeDigests_37 : decode cX1_writeDigests 37 = .ok (.iconst 1, 1) := by decide +kernel
theorem dX1_writeDigests_38 : decode cX1_writeDigests 38 = .ok (.isub, 1) := by decide +kernel
theorem dX1_writeDigests_39 : decode cX1_writeDigests 39 = .ok (.istore_n 3, 1) := by decide +kernel
theorem dX1_writeDigests_40 : decode cX1_writeDigests 40 = .ok (.iload_n 3, 1) := by decide +kernel
theorem dX1_writeDigests_41 : decode cX1_writeDigests 41 = .ok (.ifCond .lt 40, 3) := by decide +kernel
theorem dX1_writeDigests_44 : decode cX1_writeDigests 44 = .ok (.iload_n 3, 1) := by decide +kernel
theorem dX1_writeDigests_45 : decode cX1_writeDigests 45 = .ok (.bipush 64, 2) := by decide +kernel
theorem dX1_writeDigests_47 : decode cX1_writeDigests 47 = .ok (.if_icmp .ge 34, 3) := by decide +kernel
theorem dX1_writeDigests_50 : decode cX1_writeDigests 50 = .ok (.aload_n 2, 1) := by decide +kernel
theorem dX1_writeDigests_51 : decode cX1_writeDigests 51 = .ok (.aload_n 0, 1) := by decide +kernel
theorem dX1_writeDigests_52 : decode cX1_writeDigests 52 = .ok (.aload_n 1, 1) := by decide +kernel
theorem dX1_writeDigests_53 : decode cX1_writeDigests 53 = .ok (.getfield 129, 3) := by decide +kernel
theorem dX1_writeDigests_56 : decode cX1_writeDigests 56 = .ok (.iload_n 3, 1) := by decide +kernel
theorem dX1_writeDigests_57 : decode cX1_writeDigests 57 = .ok (.laload, 1) := by decide +kernel
theorem dX1_writeDigests_58 : decode cX1_writeDigests 58 = .ok (.l2i, 1) := by decide +kernel
theorem dX1_writeDigests_59 : decode cX1_writeDigests 59 = .ok (.aload_n 1, 1) := by decide +kernel
theorem dX1_writeDigests_60 : decode cX1_writeDigests 60 = .ok (.getfield 133, 3) := by decide +kernel
theorem dX1_writeDigests_63 : decode cX1_writeDigests 63 = .ok (.iload_n 3, 1) := by decide +kernel
theorem dX1_writeDigests_64 : decode cX1_writeDigests 64 = .ok (.laload, 1) := by decide +kernel
theorem dX1_writeDigests_65 : decode cX1_writeDigests 65 = .ok (.l2i, 1) := by decide +kernel
theorem dX1_writeDigests_66 : decode cX1_writeDigests 66 = .ok (.invokevirtual 122, 3) := by decide +kernel
theorem dX1_writeDigests_69 : decode cX1_writeDigests 69 = .ok (.iconst 0, 1) := by decide +kernel
theorem dX1_writeDigests_70 : decode cX1_writeDigests 70 = .ok (.bipush 32, 2) := by decide +kernel
theorem dX1_writeDigests_72 : decode cX1_writeDigests 72 = .ok (.invokevirtual 125, 3) := by decide +kernel
theorem dX1_writeDigests_75 : decode cX1_writeDigests 75 = .ok (.iinc 3 (-1), 3) := by decide +kernel
theorem dX1_writeDigests_78 : decode cX1_writeDigests 78 = .ok (.goto (-38), 3) := by decide +kernel
theorem dX1_writeDigests_81 : decode cX1_writeDigests 81 = .ok (.aload_n 1, 1) := by decide +kernel
theorem dX1_writeDigests_82 : decode cX1_writeDigests 82 = .ok (.invokevirtual 136, 3) := by decide +kernel
theorem dX1_writeDigests_85 : decode cX1_writeDigests 85 = .ok (.ireturn, 1) := by decide +kernel
theorem dX1_latestTime_0 : decode cX1_latestTime 0 = .ok (.aload_n 0, 1) := by decide +kernel
theorem dX1_latestTime_1 : decode cX1_latestTime 1 = .ok (.aload_n 0, 1) := by decide +kernel
theorem dX1_latestTime_2 : decode cX1_latestTime 2 = .ok (.getfield 140, 3) := by decide +kernel
theorem dX1_latestTime_5 : decode cX1_latestTime 5 = .ok (.iconst 1, 1) := by decide +kernel
theorem dX1_latestTime_6 : decode cX1_latestTime 6 = .ok (.isub, 1) := by decide +kernel
theorem dX1_latestTime_7 : decode cX1_latestTime 7 = .ok (.invokevirtual 143, 3) := by decide +kernel
theorem dX1_latestTime_10 : decode cX1_latestTime 10 = .ok (.astore_n 1, 1) := by decide +kernel
theorem dX1_latestTime_11 : decode cX1_latestTime 11 = .ok (.aload_n 1, 1) := by decide +kernel
theorem dX1_latestTime_12 : decode cX1_latestTime 12 = .ok (.ifnonnull 7, 3) := by decide +kernel
theorem dX1_latestTime_15 : decode cX1_latestTime 15 = .ok (.lconst 0, 1) := by decide +kernel
theorem dX1_latestTime_16 : decode cX1_latestTime 16 = .ok (.goto 8, 3) := by decide +kernel
theorem dX1_latestTime_19 : decode cX1_latestTime 19 = .ok (.aload_n 1, 1) := by decide +kernel
theorem dX1_latestTime_20 : decode cX1_latestTime 20 = .ok (.iconst 0, 1) := by decide +kernel
theorem dX1_latestTime_21 : decode cX1_latestTime 21 = .ok (.invokevirtual 147, 3) := by decide +kernel
theorem dX1_latestTime_24 : decode cX1_latestTime 24 = .ok (.lreturn, 1) := by decide +kernel
theorem dX1_headAt_0 : decode cX1_headAt 0 = .ok (.iload_n 1, 1) := by decide +kernel
theorem dX1_headAt_1 : decode cX1_headAt 1 = .ok (.ifCond .lt 17, 3) := by decide +kernel
theorem dX1_headAt_4 : decode cX1_headAt 4 = .ok (.iload_n 1, 1) := by decide +kernel
theorem dX1_headAt_5 : decode cX1_headAt 5 = .ok (.aload_n 0, 1) := by decide +kernel
theorem dX1_headAt_6 : decode cX1_headAt 6 = .ok (.getfield 140, 3) := by decide +kernel
theorem dX1_headAt_9 : decode cX1_headAt 9 = .ok (.if_icmp .ge 9, 3) := by decide +kernel
theorem dX1_headAt_12 : decode cX1_headAt 12 = .ok (.iload_n 1, 1) := by decide +kernel
theorem dX1_headAt_13 : decode cX1_headAt 13 = .ok (.bipush 40, 2) := by decide +kernel
theorem dX1_headAt_15 : decode cX1_headAt 15 = .ok (.if_icmp .lt 7, 3) := by decide +kernel
theorem dX1_headAt_18 : decode cX1_headAt 18 = .ok (.aconst_null, 1) := by decide +kernel
theorem dX1_headAt_19 : decode cX1_headAt 19 = .ok (.goto 9, 3) := by decide +kernel
theorem dX1_headAt_22 : decode cX1_headAt 22 = .ok (.aload_n 0, 1) := by decide +kernel
theorem dX1_headAt_23 : decode cX1_headAt 23 = .ok (.getfield 31, 3) := by decide +kernel
theorem dX1_headAt_26 : decode cX1_headAt 26 = .ok (.iload_n 1, 1) := by decide +kernel
theorem dX1_headAt_27 : decode cX1_headAt 27 = .ok (.aaload, 1) := by decide +kernel
theorem dX1_headAt_28 : decode cX1_headAt 28 = .ok (.areturn, 1) := by decide +kernel
theorem dX1_addHead_0 : decode cX1_addHead 0 = .ok (.aload_n 0, 1) := by decide +kernel
theorem dX1_addHead_1 : decode cX1_addHead 1 = .ok (.getfield 140, 3) := by decide +kernel
theorem dX1_addHead_4 : decode cX1_addHead 4 = .ok (.bipush 40, 2) := by decide +kernel
theorem dX1_addHead_6 : decode cX1_addHead 6 = .ok (.if_icmp .lt 5, 3) := by decide +kernel
theorem dX1_addHead_9 : decode cX1_addHead 9 = .ok (.iconst (-1), 1) := by decide +kernel
theorem dX1_addHead_10 : decode cX1_addHead 10 = .ok (.ireturn, 1) := by decide +kernel
theorem dX1_addHead_11 : decode cX1_addHead 11 = .ok (.aload_n 0, 1) := by decide +kernel
theorem dX1_addHead_12 : decode cX1_addHead 12 = .ok (.aload_n 0, 1) := by decide +kernel
theorem dX1_addHead_13 : decode cX1_addHead 13 = .ok (.getfield 65, 3) := by decide +kernel
theorem dX1_addHead_16 : decode cX1_addHead 16 = .ok (.putfield 97, 3) := by decide +kernel
theorem dX1_addHead_19 : decode cX1_addHead 19 = .ok (.aload_n 0, 1) := by decide +kernel
theorem dX1_addHead_20 : decode cX1_addHead 20 = .ok (.getfield 37, 3) := by decide +kernel
theorem dX1_addHead_23 : decode cX1_addHead 23 = .ok (.iconst 0, 1) := by decide +kernel
theorem dX1_addHead_24 : decode cX1_addHead 24 = .ok (.lload_n 1, 1) := by decide +kernel
theorem dX1_addHead_25 : decode cX1_addHead 25 = .ok (.invokestatic 151, 3) := by decide +kernel
theorem dX1_addHead_28 : decode cX1_addHead 28 = .ok (.aload_n 0, 1) := by decide +kernel
theorem dX1_addHead_29 : decode cX1_addHead 29 = .ok (.getfield 37, 3) := by decide +kernel
theorem dX1_addHead_32 : decode cX1_addHead 32 = .ok (.bipush 8, 2) := by decide +kernel
theorem dX1_addHead_34 : decode cX1_addHead 34 = .ok (.aload_n 0, 1) := by decide +kernel
theorem dX1_addHead_35 : decode cX1_addHead 35 = .ok (.getfield 97, 3) := by decide +kernel
theorem dX1_addHead_38 : decode cX1_addHead 38 = .ok (.i2l, 1) := by decide +kernel
theorem dX1_addHead_39 : decode cX1_addHead 39 = .ok (.invokestatic 151, 3) := by decide +kernel
theorem dX1_addHead_42 : decode cX1_addHead 42 = .ok (.aload_n 0, 1) := by decide +kernel
theorem dX1_addHead_43 : decode cX1_addHead 43 = .ok (.iconst 0, 1) := by decide +kernel
theorem dX1_addHead_44 : decode cX1_addHead 44 = .ok (.aload_n 0, 1) := by decide +kernel
theorem dX1_addHead_45 : decode cX1_addHead 45 = .ok (.getfield 97, 3) := by decide +kernel
theorem dX1_addHead_48 : decode cX1_addHead 48 = .ok (.invokevirtual 122, 3) := by decide +kernel
theorem dX1_addHead_51 : decode cX1_addHead 51 = .ok (.iconst 0, 1) := by decide +kernel
theorem dX1_addHead_52 : decode cX1_addHead 52 = .ok (.aload_n 0, 1) := by decide +kernel
theorem dX1_addHead_53 : decode cX1_addHead 53 = .ok (.getfield 37, 3) := by decide +kernel
theorem dX1_addHead_56 : decode cX1_addHead 56 = .ok (.bipush 16, 2) := by decide +kernel
theorem dX1_addHead_58 : decode cX1_addHead 58 = .ok (.bipush 32, 2) := by decide +kernel
theorem dX1_addHead_60 : decode cX1_addHead 60 = .ok (.invokestatic 57, 3) := by decide +kernel
theorem dX1_addHead_63 : decode cX1_addHead 63 = .ok (.aload_n 0, 1) := by decide +kernel
theorem dX1_addHead_64 : decode cX1_addHead 64 = .ok (.aload_n 0, 1) := by decide +kernel
theorem dX1_addHead_65 : decode cX1_addHead 65 = .ok (.getfield 37, 3) := by decide +kernel
theorem dX1_addHead_68 : decode cX1_addHead 68 = .ok (.invokevirtual 155, 3) := by decide +kernel
theorem dX1_addHead_71 : decode cX1_addHead 71 = .ok (.iconst 0, 1) := by decide +kernel
theorem dX1_addHead_72 : decode cX1_addHead 72 = .ok (.aload_n 0, 1) := by decide +kernel
theorem dX1_addHead_73 : decode cX1_addHead 73 = .ok (.getfield 37, 3) := by decide +kernel
theorem dX1_addHead_76 : decode cX1_addHead 76 = .ok (.bipush 48, 2) := by decide +kernel
theorem dX1_addHead_78 : decode cX1_addHead 78 = .ok (.bipush 32, 2) := by decide +kernel
theorem dX1_addHead_80 : decode cX1_addHead 80 = .ok (.invokestatic 57, 3) := by decide +kernel
theorem dX1_addHead_83 : decode cX1_addHead 83 = .ok (.aload_n 0, 1) := by decide +kernel
theorem dX1_addHead_84 : decode cX1_addHead 84 = .ok (.getfield 31, 3) := by decide +kernel
theorem dX1_addHead_87 : decode cX1_addHead 87 = .ok (.aload_n 0, 1) := by decide +kernel
theorem dX1_addHead_88 : decode cX1_addHead 88 = .ok (.getfield 140, 3) := by decide +kernel
theorem dX1_addHead_91 : decode cX1_addHead 91 = .ok (.new 22, 3) := by decide +kernel
theorem dX1_addHead_94 : decode cX1_addHead 94 = .ok (.dup, 1) := by decide +kernel
theorem dX1_addHead_95 : decode cX1_addHead 95 = .ok (.aload_n 0, 1) := by decide +kernel
theorem dX1_addHead_96 : decode cX1_addHead 96 = .ok (.getfield 37, 3) := by decide +kernel
theorem dX1_addHead_99 : decode cX1_addHead 99 = .ok (.bipush 80, 2) := by decide +kernel
theorem dX1_addHead_101 : decode cX1_addHead 101 = .ok (.invokespecial 75, 3) := by decide +kernel
theorem dX1_addHead_104 : decode cX1_addHead 104 = .ok (.aastore, 1) := by decide +kernel
theorem dX1_addHead_105 : decode cX1_addHead 105 = .ok (.aload_n 0, 1) := by decide +kernel
theorem dX1_addHead_106 : decode cX1_addHead 106 = .ok (.dup, 1) := by decide +kernel
theorem dX1_addHead_107 : decode cX1_addHead 107 = .ok (.getfield 140, 3) := by decide +kernel
theorem dX1_addHead_110 : decode cX1_addHead 110 = .ok (.iconst 1, 1) := by decide +kernel
theorem dX1_addHead_111 : decode cX1_addHead 111 = .ok (.iadd, 1) := by decide +kernel
theorem dX1_addHead_112 : decode cX1_addHead 112 = .ok (.putfield 140, 3) := by decide +kernel
theorem dX1_addHead_115 : decode cX1_addHead 115 = .ok (.aload_n 0, 1) := by decide +kernel
theorem dX1_addHead_116 : decode cX1_addHead 116 = .ok (.getfield 140, 3) := by decide +kernel
theorem dX1_addHead_119 : decode cX1_addHead 119 = .ok (.iconst 1, 1) := by decide +kernel
theorem dX1_addHead_120 : decode cX1_addHead 120 = .ok (.isub, 1) := by decide +kernel
theorem dX1_addHead_121 : decode cX1_addHead 121 = .ok (.ireturn, 1) := by decide +kernel
theorem dX1_sealOf_0 : decode cX1_sealOf 0 = .ok (.aload_n 0, 1) := by decide +kernel
theorem dX1_sealOf_1 : decode cX1_sealOf 1 = .ok (.bipush 54, 2) := by decide +kernel
theorem dX1_sealOf_3 : decode cX1_sealOf 3 = .ok (.invokevirtual 159, 3) := by decide +kernel
theorem dX1_sealOf_6 : decode cX1_sealOf 6 = .ok (.aload_n 0, 1) := by decide +kernel
theorem dX1_sealOf_7 : decode cX1_sealOf 7 = .ok (.getfield 12, 3) := by decide +kernel
theorem dX1_sealOf_10 : decode cX1_sealOf 10 = .ok (.iconst 0, 1) := by decide +kernel
theorem dX1_sealOf_11 : decode cX1_sealOf 11 = .ok (.invokevirtual 78, 3) := by decide +kernel
theorem dX1_sealOf_14 : decode cX1_sealOf 14 = .ok (.aload_n 0, 1) := by decide +kernel
theorem dX1_sealOf_15 : decode cX1_sealOf 15 = .ok (.getfield 12, 3) := by decide +kernel
theorem dX1_sealOf_18 : decode cX1_sealOf 18 = .ok (.iconst 1, 1) := by decide +kernel
theorem dX1_sealOf_19 : decode cX1_sealOf 19 = .ok (.invokevirtual 78, 3) := by decide +kernel
theorem dX1_sealOf_22 : decode cX1_sealOf 22 = .ok (.aload_n 0, 1) := by decide +kernel
theorem dX1_sealOf_23 : decode cX1_sealOf 23 = .ok (.getfield 12, 3) := by decide +kernel
theorem dX1_sealOf_26 : decode cX1_sealOf 26 = .ok (.aload_n 1, 1) := by decide +kernel
theorem dX1_sealOf_27 : decode cX1_sealOf 27 = .ok (.iconst 0, 1) := by decide +kernel
theorem dX1_sealOf_28 : decode cX1_sealOf 28 = .ok (.bipush 48, 2) := by decide +kernel
theorem dX1_sealOf_30 : decode cX1_sealOf 30 = .ok (.invokevirtual 49, 3) := by decide +kernel
theorem dX1_sealOf_33 : decode cX1_sealOf 33 = .ok (.aload_n 0, 1) := by decide +kernel
theorem dX1_sealOf_34 : decode cX1_sealOf 34 = .ok (.getfield 12, 3) := by decide +kernel
theorem dX1_sealOf_37 : decode cX1_sealOf 37 = .ok (.aload_n 0, 1) := by decide +kernel
theorem dX1_sealOf_38 : decode cX1_sealOf 38 = .ok (.getfield 34, 3) := by decide +kernel
theorem dX1_sealOf_41 : decode cX1_sealOf 41 = .ok (.invokevirtual 53, 3) := by decide +kernel
theorem dX1_sealOf_44 : decode cX1_sealOf 44 = .ok (.aload_n 0, 1) := by decide +kernel
theorem dX1_sealOf_45 : decode cX1_sealOf 45 = .ok (.bipush 92, 2) := by decide +kernel
theorem dX1_sealOf_47 : decode cX1_sealOf 47 = .ok (.invokevirtual 159, 3) := by decide +kernel
theorem dX1_sealOf_50 : decode cX1_sealOf 50 = .ok (.aload_n 0, 1) := by decide +kernel
theorem dX1_sealOf_51 : decode cX1_sealOf 51 = .ok (.getfield 12, 3) := by decide +kernel
theorem dX1_sealOf_54 : decode cX1_sealOf 54 = .ok (.aload_n 0, 1) := by decide +kernel
theorem dX1_sealOf_55 : decode cX1_sealOf 55 = .ok (.getfield 34, 3) := by decide +kernel
theorem dX1_sealOf_58 : decode cX1_sealOf 58 = .ok (.iconst 0, 1) := by decide +kernel
theorem dX1_sealOf_59 : decode cX1_sealOf 59 = .ok (.bipush 32, 2) := by decide +kernel
theorem dX1_sealOf_61 : decode cX1_sealOf 61 = .ok (.invokevirtual 49, 3) := by decide +kernel
theorem dX1_sealOf_64 : decode cX1_sealOf 64 = .ok (.aload_n 0, 1) := by decide +kernel
theorem dX1_sealOf_65 : decode cX1_sealOf 65 = .ok (.getfield 12, 3) := by decide +kernel
theorem dX1_sealOf_68 : decode cX1_sealOf 68 = .ok (.aload_n 0, 1) := by decide +kernel
theorem dX1_sealOf_69 : decode cX1_sealOf 69 = .ok (.getfield 34, 3) := by decide +kernel
theorem dX1_sealOf_72 : decode cX1_sealOf 72 = .ok (.invokevirtual 53, 3) := by decide +kernel
theorem dX1_sealOf_75 : decode cX1_sealOf 75 = .ok (.aload_n 0, 1) := by decide +kernel
theorem dX1_sealOf_76 : decode cX1_sealOf 76 = .ok (.getfield 34, 3) := by decide +kernel
theorem dX1_sealOf_79 : decode cX1_sealOf 79 = .ok (.areturn, 1) := by decide +kernel
theorem dX1_beginPadded_0 : decode cX1_beginPadded 0 = .ok (.aload_n 0, 1) := by decide +kernel
theorem dX1_beginPadded_1 : decode cX1_beginPadded 1 = .ok (.getfield 12, 3) := by decide +kernel
theorem dX1_beginPadded_4 : decode cX1_beginPadded 4 = .ok (.invokevirtual 46, 3) := by decide +kernel
theorem dX1_beginPadded_7 : decode cX1_beginPadded 7 = .ok (.iconst 0, 1) := by decide +kernel
theorem dX1_beginPadded_8 : decode cX1_beginPadded 8 = .ok (.istore_n 2, 1) := by decide +kernel
theorem dX1_beginPadded_9 : decode cX1_beginPadded 9 = .ok (.iload_n 2, 1) := by decide +kernel
theorem dX1_beginPadded_10 : decode cX1_beginPadded 10 = .ok (.bipush 64, 2) := by decide +kernel
theorem dX1_beginPadded_12 : decode cX1_beginPadded 12 = .ok (.if_icmp .ge 24, 3) := by decide +kernel
theorem dX1_beginPadded_15 : decode cX1_beginPadded 15 = .ok (.aload_n 0, 1) := by decide +kernel
theorem dX1_beginPadded_16 : decode cX1_beginPadded 16 = .ok (.getfield 12, 3) := by decide +kernel
theorem dX1_beginPadded_19 : decode cX1_beginPadded 19 = .ok (.aload_n 0, 1) := by decide +kernel
theorem dX1_beginPadded_20 : decode cX1_beginPadded 20 = .ok (.getfield 18, 3) := by decide +kernel
theorem dX1_beginPadded_23 : decode cX1_beginPadded 23 = .ok (.iload_n 2, 1) := by decide +kernel
theorem dX1_beginPadded_24 : decode cX1_beginPadded 24 = .ok (.baload, 1) := by decide +kernel
theorem dX1_beginPadded_25 : decode cX1_beginPadded 25 = .ok (.iload_n 1, 1) := by decide +kernel
theorem dX1_beginPadded_26 : decode cX1_beginPadded 26 = .ok (.ixor, 1) := by decide +kernel
theorem dX1_beginPadded_27 : decode cX1_beginPadded 27 = .ok (.invokevirtual 78, 3) := by decide +kernel
theorem dX1_beginPadded_30 : decode cX1_beginPadded 30 = .ok (.iinc 2 1, 3) := by decide +kernel
theorem dX1_beginPadded_33 : decode cX1_beginPadded 33 = .ok (.goto (-24), 3) := by decide +kernel
theorem dX1_beginPadded_36 : decode cX1_beginPadded 36 = .ok (.return_, 1) := by decide +kernel
theorem dX1_hasSealed_0 : decode cX1_hasSealed 0 = .ok (.aload_n 0, 1) := by decide +kernel
theorem dX1_hasSealed_1 : decode cX1_hasSealed 1 = .ok (.aload_n 1, 1) := by decide +kernel
theorem dX1_hasSealed_2 : decode cX1_hasSealed 2 = .ok (.invokevirtual 155, 3) := by decide +kernel
theorem dX1_hasSealed_5 : decode cX1_hasSealed 5 = .ok (.iconst 0, 1) := by decide +kernel
theorem dX1_hasSealed_6 : decode cX1_hasSealed 6 = .ok (.aload_n 1, 1) := by decide +kernel
theorem dX1_hasSealed_7 : decode cX1_hasSealed 7 = .ok (.bipush 48, 2) := by decide +kernel
theorem dX1_hasSealed_9 : decode cX1_hasSealed 9 = .ok (.bipush 32, 2) := by decide +kernel
theorem dX1_hasSealed_11 : decode cX1_hasSealed 11 = .ok (.invokestatic 71, 3) := by decide +kernel
theorem dX1_hasSealed_14 : decode cX1_hasSealed 14 = .ok (.ireturn, 1) := by decide +kernel
theorem dX2_init_0 : decode cX2_init 0 = .ok (.aload_n 0, 1) := by decide +kernel
theorem dX2_init_1 : decode cX2_init 1 = .ok (.invokespecial 1, 3) := by decide +kernel
theorem dX2_init_4 : decode cX2_init 4 = .ok (.aload_n 0, 1) := by decide +kernel
theorem dX2_init_5 : decode cX2_init 5 = .ok (.bipush 64, 2) := by decide +kernel
theorem dX2_init_7 : decode cX2_init 7 = .ok (.newarray .long, 2) := by decide +kernel
theorem dX2_init_9 : decode cX2_init 9 = .ok (.putfield 9, 3) := by decide +kernel
theorem dX2_init_12 : decode cX2_init 12 = .ok (.aload_n 0, 1) := by decide +kernel
theorem dX2_init_13 : decode cX2_init 13 = .ok (.bipush 64, 2) := by decide +kernel
theorem dX2_init_15 : decode cX2_init 15 = .ok (.newarray .long, 2) := by decide +kernel
theorem dX2_init_17 : decode cX2_init 17 = .ok (.putfield 13, 3) := by decide +kernel
theorem dX2_init_20 : decode cX2_init 20 = .ok (.aload_n 0, 1) := by decide +kernel
theorem dX2_init_21 : decode cX2_init 21 = .ok (.bipush 64, 2) := by decide +kernel
theorem dX2_init_23 : decode cX2_init 23 = .ok (.newarray .boolean, 2) := by decide +kernel
theorem dX2_init_25 : decode cX2_init 25 = .ok (.putfield 16, 3) := by decide +kernel
theorem dX2_init_28 : decode cX2_init 28 = .ok (.return_, 1) := by decide +kernel
theorem dX2_digests_0 : decode cX2_digests 0 = .ok (.aload_n 0, 1) := by decide +kernel
theorem dX2_digests_1 : decode cX2_digests 1 = .ok (.getfield 20, 3) := by decide +kernel
theorem dX2_digests_4 : decode cX2_digests 4 = .ok (.aload_n 0, 1) := by decide +kernel
theorem dX2_digests_5 : decode cX2_digests 5 = .ok (.getfield 24, 3) := by decide +kernel
theorem dX2_digests_8 : decode cX2_digests 8 = .ok (.ifCond .eq 7, 3) := by decide +kernel
theorem dX2_digests_11 : decode cX2_digests 11 = .ok (.iconst 1, 1) := by decide +kernel
theorem dX2_digests_12 : decode cX2_digests 12 = .ok (.goto 4, 3) := by decide +kernel
theorem dX2_digests_15 : decode cX2_digests 15 = .ok (.iconst 0, 1) := by decide +kernel
theorem dX2_digests_16 : decode cX2_digests 16 = .ok (.iadd, 1) := by decide +kernel
theorem dX2_digests_17 : decode cX2_digests 17 = .ok (.ireturn, 1) := by decide +kernel
theorem dX2_goToLeaf_0 : decode cX2_goToLeaf 0 = .ok (.aload_n 0, 1) := by decide +kernel
theorem dX2_goToLeaf_1 : decode cX2_goToLeaf 1 = .ok (.lload_n 3, 1) := by decide +kernel
theorem dX2_goToLeaf_2 : decode cX2_goToLeaf 2 = .ok (.invokevirtual 28, 3) := by decide +kernel
theorem dX2_goToLeaf_5 : decode cX2_goToLeaf 5 = .ok (.iconst 0, 1) := by decide +kernel
theorem dX2_goToLeaf_6 : decode cX2_goToLeaf 6 = .ok (.istore 5, 2) := by decide +kernel
theorem dX2_goToLeaf_8 : decode cX2_goToLeaf 8 = .ok (.iload 5, 2) := by decide +kernel
theorem dX2_goToLeaf_10 : decode cX2_goToLeaf 10 = .ok (.bipush 64, 2) := by decide +kernel
theorem dX2_goToLeaf_12 : decode cX2_goToLeaf 12 = .ok (.if_icmp .ge 64, 3) := by decide +kernel
theorem dX2_goToLeaf_15 : decode cX2_goToLeaf 15 = .ok (.aload_n 0, 1) := by decide +kernel
theorem dX2_goToLeaf_16 : decode cX2_goToLeaf 16 = .ok (.getfield 32, 3) := by decide +kernel
theorem dX2_goToLeaf_19 : decode cX2_goToLeaf 19 = .ok (.aload_n 0, 1) := by decide +kernel
theorem dX2_goToLeaf_20 : decode cX2_goToLeaf 20 = .ok (.getfield 36, 3) := by decide +kernel
theorem dX2_goToLeaf_23 : decode cX2_goToLeaf 23 = .ok (.lsub, 1) := by decide +kernel
theorem dX2_goToLeaf_24 : decode cX2_goToLeaf 24 = .ok (.lconst 1, 1) := by decide +kernel
theorem dX2_goToLeaf_25 : decode cX2_goToLeaf 25 = .ok (.lcmp, 1) := by decide +kernel
theorem dX2_goToLeaf_26 : decode cX2_goToLeaf 26 = .ok (.ifCond .le 50, 3) := by decide +kernel
theorem dX2_goToLeaf_29 : decode cX2_goToLeaf 29 = .ok (.aload_n 0, 1) := by decide +kernel
theorem dX2_goToLeaf_30 : decode cX2_goToLeaf 30 = .ok (.getfield 36, 3) := by decide +kernel
theorem dX2_goToLeaf_33 : decode cX2_goToLeaf 33 = .ok (.aload_n 0, 1) := by decide +kernel
theorem dX2_goToLeaf_34 : decode cX2_goToLeaf 34 = .ok (.getfield 32, 3) := by decide +kernel
theorem dX2_goToLeaf_37 : decode cX2_goToLeaf 37 = .ok (.aload_n 0, 1) := by decide +kernel
theorem dX2_goToLeaf_38 : decode cX2_goToLeaf 38 = .ok (.getfield 36, 3) := by decide +kernel
theorem dX2_goToLeaf_41 : decode cX2_goToLeaf 41 = .ok (.lsub, 1) := by decide +kernel
theorem dX2_goToLeaf_42 : decode cX2_goToLeaf 42 = .ok (.invokestatic 39, 3) := by decide +kernel
theorem dX2_goToLeaf_45 : decode cX2_goToLeaf 45 = .ok (.ladd, 1) := by decide +kernel
theorem dX2_goToLeaf_46 : decode cX2_goToLeaf 46 = .ok (.lstore 6, 2) := by decide +kernel
theorem dX2_goToLeaf_48 : decode cX2_goToLeaf 48 = .ok (.lload_n 1, 1) := by decide +kernel
theorem dX2_goToLeaf_49 : decode cX2_goToLeaf 49 = .ok (.lload 6, 2) := by decide +kernel
theorem dX2_goToLeaf_51 : decode cX2_goToLeaf 51 = .ok (.lcmp, 1) := by decide +kernel
theorem dX2_goToLeaf_52 : decode cX2_goToLeaf 52 = .ok (.ifCond .ge 12, 3) := by decide +kernel
theorem dX2_goToLeaf_55 : decode cX2_goToLeaf 55 = .ok (.aload_n 0, 1) := by decide +kernel
theorem dX2_goToLeaf_56 : decode cX2_goToLeaf 56 = .ok (.lload 6, 2) := by decide +kernel
theorem dX2_goToLeaf_58 : decode cX2_goToLeaf 58 = .ok (.invokevirtual 43, 3) := by decide +kernel
theorem dX2_goToLeaf_61 : decode cX2_goToLeaf 61 = .ok (.goto 9, 3) := by decide +kernel
theorem dX2_goToLeaf_64 : decode cX2_goToLeaf 64 = .ok (.aload_n 0, 1) := by decide +kernel
theorem dX2_goToLeaf_65 : decode cX2_goToLeaf 65 = .ok (.lload 6, 2) := by decide +kernel
theorem dX2_goToLeaf_67 : decode cX2_goToLeaf 67 = .ok (.invokevirtual 46, 3) := by decide +kernel
theorem dX2_goToLeaf_70 : decode cX2_goToLeaf 70 = .ok (.iinc 5 1, 3) := by decide +kernel
theorem dX2_goToLeaf_73 : decode cX2_goToLeaf 73 = .ok (.goto (-65), 3) := by decide +kernel
theorem dX2_goToLeaf_76 : decode cX2_goToLeaf 76 = .ok (.return_, 1) := by decide +kernel
theorem dX2_goToSize_0 : decode cX2_goToSize 0 = .ok (.aload_n 0, 1) := by decide +kernel
theorem dX2_goToSize_1 : decode cX2_goToSize 1 = .ok (.lload_n 3, 1) := by decide +kernel
theorem dX2_goToSize_2 : decode cX2_goToSize 2 = .ok (.invokevirtual 28, 3) := by decide +kernel
theorem dX2_goToSize_5 : decode cX2_goToSize 5 = .ok (.iconst 0, 1) := by decide +kernel
theorem dX2_goToSize_6 : decode cX2_goToSize 6 = .ok (.istore 5, 2) := by decide +kernel
theorem dX2_goToSize_8 : decode cX2_goToSize 8 = .ok (.iload 5, 2) := by decide +kernel
theorem dX2_goToSize_10 : decode cX2_goToSize 10 = .ok (.bipush 64, 2) := by decide +kernel
theorem dX2_goToSize_12 : decode cX2_goToSize 12 = .ok (.if_icmp .ge 64, 3) := by decide +kernel
theorem dX2_goToSize_15 : decode cX2_goToSize 15 = .ok (.aload_n 0, 1) := by decide +kernel
theorem dX2_goToSize_16 : decode cX2_goToSize 16 = .ok (.getfield 32, 3) := by decide +kernel
theorem dX2_goToSize_19 : decode cX2_goToSize 19 = .ok (.lload_n 1, 1) := by decide +kernel
theorem dX2_goToSize_20 : decode cX2_goToSize 20 = .ok (.lcmp, 1) := by decide +kernel
theorem dX2_goToSize_21 : decode cX2_goToSize 21 = .ok (.ifCond .le 55, 3) := by decide +kernel
theorem dX2_goToSize_24 : decode cX2_goToSize 24 = .ok (.aload_n 0, 1) := by decide +kernel
theorem dX2_goToSize_25 : decode cX2_goToSize 25 = .ok (.getfield 36, 3) := by decide +kernel
theorem dX2_goToSize_28 : decode cX2_goToSize 28 = .ok (.aload_n 0, 1) := by decide +kernel
theorem dX2_goToSize_29 : decode cX2_goToSize 29 = .ok (.getfield 32, 3) := by decide +kernel
theorem dX2_goToSize_32 : decode cX2_goToSize 32 = .ok (.aload_n 0, 1) := by decide +kernel
theorem dX2_goToSize_33 : decode cX2_goToSize 33 = .ok (.getfield 36, 3) := by decide +kernel
theorem dX2_goToSize_36 : decode cX2_goToSize 36 = .ok (.lsub, 1) := by decide +kernel
theorem dX2_goToSize_37 : decode cX2_goToSize 37 = .ok (.invokestatic 39, 3) := by decide +kernel
theorem dX2_goToSize_40 : decode cX2_goToSize 40 = .ok (.ladd, 1) := by decide +kernel
theorem dX2_goToSize_41 : decode cX2_goToSize 41 = .ok (.lstore 6, 2) := by decide +kernel
theorem dX2_goToSize_43 : decode cX2_goToSize 43 = .ok (.lload_n 1, 1) := by decide +kernel
theorem dX2_goToSize_44 : decode cX2_goToSize 44 = .ok (.lload 6, 2) := by decide +kernel
theorem dX2_goToSize_46 : decode cX2_goToSize 46 = .ok (.lcmp, 1) := by decide +kernel
theorem dX2_goToSize_47 : decode cX2_goToSize 47 = .ok (.ifCond .gt 12, 3) := by decide +kernel
theorem dX2_goToSize_50 : decode cX2_goToSize 50 = .ok (.aload_n 0, 1) := by decide +kernel
theorem dX2_goToSize_51 : decode cX2_goToSize 51 = .ok (.lload 6, 2) := by decide +kernel
theorem dX2_goToSize_53 : decode cX2_goToSize 53 = .ok (.invokevirtual 43, 3) := by decide +kernel
theorem dX2_goToSize_56 : decode cX2_goToSize 56 = .ok (.goto 14, 3) := by decide +kernel
theorem dX2_goToSize_59 : decode cX2_goToSize 59 = .ok (.aload_n 0, 1) := by decide +kernel
theorem dX2_goToSize_60 : decode cX2_goToSize 60 = .ok (.lload 6, 2) := by decide +kernel
theorem dX2_goToSize_62 : decode cX2_goToSize 62 = .ok (.invokevirtual 46, 3) := by decide +kernel
theorem dX2_goToSize_65 : decode cX2_goToSize 65 = .ok (.aload_n 0, 1) := by decide +kernel
theorem dX2_goToSize_66 : decode cX2_goToSize 66 = .ok (.iconst 1, 1) := by decide +kernel
theorem dX2_goToSize_67 : decode cX2_goToSize 67 = .ok (.putfield 24, 3) := by decide +kernel
theorem dX2_goToSize_70 : decode cX2_goToSize 70 = .ok (.iinc 5 1, 3) := by decide +kernel
theorem dX2_goToSize_73 : decode cX2_goToSize 73 = .ok (.goto (-65), 3) := by decide +kernel
theorem dX2_goToSize_76 : decode cX2_goToSize 76 = .ok (.return_, 1) := by decide +kernel
theorem dX2_begin_0 : decode cX2_begin 0 = .ok (.aload_n 0, 1) := by decide +kernel
theorem dX2_begin_1 : decode cX2_begin 1 = .ok (.iconst 0, 1) := by decide +kernel
theorem dX2_begin_2 : decode cX2_begin 2 = .ok (.putfield 20, 3) := by decide +kernel
theorem dX2_begin_5 : decode cX2_begin 5 = .ok (.aload_n 0, 1) := by decide +kernel
theorem dX2_begin_6 : decode cX2_begin 6 = .ok (.lconst 0, 1) := by decide +kernel
theorem dX2_begin_7 : decode cX2_begin 7 = .ok (.putfield 36, 3) := by decide +kernel
theorem dX2_begin_10 : decode cX2_begin 10 = .ok (.aload_n 0, 1) := by decide +kernel
theorem dX2_begin_11 : decode cX2_begin 11 = .ok (.lload_n 1, 1) := by decide +kernel
theorem dX2_begin_12 : decode cX2_begin 12 = .ok (.putfield 32, 3) := by decide +kernel
theorem dX2_begin_15 : decode cX2_begin 15 = .ok (.aload_n 0, 1) := by decide +kernel
theorem dX2_begin_16 : decode cX2_begin 16 = .ok (.iconst 0, 1) := by decide +kernel
theorem dX2_begin_17 : decode cX2_begin 17 = .ok (.putfield 24, 3) := by decide +kernel
theorem dX2_begin_20 : decode cX2_begin 20 = .ok (.return_, 1) := by decide +kernel
theorem dX2_passBack_0 : decode cX2_passBack 0 = .ok (.aload_n 0, 1) := by decide +kernel
theorem dX2_passBack_1 : decode cX2_passBack 1 = .ok (.lload_n 1, 1) := by decide +kernel
theorem dX2_passBack_2 : decode cX2_passBack 2 = .ok (.aload_n 0, 1) := by decide +kernel
theorem dX2_passBack_3 : decode cX2_passBack 3 = .ok (.getfield 32, 3) := by decide +kernel
theorem dX2_passBack_6 : decode cX2_passBack 6 = .ok (.iconst 0, 1) := by decide +kernel
theorem dX2_passBack_7 : decode cX2_passBack 7 = .ok (.invokevirtual 49, 3) := by decide +kernel
theorem dX2_passBack_10 : decode cX2_passBack 10 = .ok (.aload_n 0, 1) := by decide +kernel
theorem dX2_passBack_11 : decode cX2_passBack 11 = .ok (.lload_n 1, 1) := by decide +kernel
theorem dX2_passBack_12 : decode cX2_passBack 12 = .ok (.putfield 32, 3) := by decide +kernel
theorem dX2_passBack_15 : decode cX2_passBack 15 = .ok (.return_, 1) := by decide +kernel
theorem dX2_passFront_0 : decode cX2_passFront 0 = .ok (.aload_n 0, 1) := by decide +kernel
theorem dX2_passFront_1 : decode cX2_passFront 1 = .ok (.aload_n 0, 1) := by decide +kernel
theorem dX2_passFront_2 : decode cX2_passFront 2 = .ok (.getfield 36, 3) := by decide +kernel
theorem dX2_passFront_5 : decode cX2_passFront 5 = .ok (.lload_n 1, 1) := by decide +kernel
theorem dX2_passFront_6 : decode cX2_passFront 6 = .ok (.iconst 1, 1) := by decide +kernel
theorem dX2_passFront_7 : decode cX2_passFront 7 = .ok (.invokevirtual 49, 3) := by decide +kernel
theorem dX2_passFront_10 : decode cX2_passFront 10 = .ok (.aload_n 0, 1) := by decide +kernel
theorem dX2_passFront_11 : decode cX2_passFront 11 = .ok (.lload_n 1, 1) := by decide +kernel
theorem dX2_passFront_12 : decode cX2_passFront 12 = .ok (.putfield 36, 3) := by decide +kernel
theorem dX2_passFront_15 : decode cX2_passFront 15 = .ok (.return_, 1) := by decide +kernel
theorem dX2_note_0 : decode cX2_note 0 = .ok (.aload_n 0, 1) := by decide +kernel
theorem dX2_note_1 : decode cX2_note 1 = .ok (.getfield 20, 3) := by decide +kernel
theorem dX2_note_4 : decode cX2_note 4 = .ok (.bipush 64, 2) := by decide +kernel
theorem dX2_note_6 : decode cX2_note 6 = .ok (.if_icmp .lt 4, 3) := by decide +kernel
theorem dX2_note_9 : decode cX2_note 9 = .ok (.return_, 1) := by decide +kernel
theorem dX2_note_10 : decode cX2_note 10 = .ok (.aload_n 0, 1) := by decide +kernel
theorem dX2_note_11 : decode cX2_note 11 = .ok (.getfield 9, 3) := by decide +kernel
theorem dX2_note_14 : decode cX2_note 14 = .ok (.aload_n 0, 1) := by decide +kernel
theorem dX2_note_15 : decode cX2_note 15 = .ok (.getfield 20, 3) := by decide +kernel
theorem dX2_note_18 : decode cX2_note 18 = .ok (.lload_n 1, 1) := by decide +kernel
theorem dX2_note_19 : decode cX2_note 19 = .ok (.lastore, 1) := by decide +kernel
theorem dX2_note_20 : decode cX2_note 20 = .ok (.aload_n 0, 1) := by decide +kernel
theorem dX2_note_21 : decode cX2_note 21 = .ok (.getfield 13, 3) := by decide +kernel
theorem dX2_note_24 : decode cX2_note 24 = .ok (.aload_n 0, 1) := by decide +kernel
theorem dX2_note_25 : decode cX2_note 25 = .ok (.getfield 20, 3) := by decide +kernel
theorem dX2_note_28 : decode cX2_note 28 = .ok (.lload_n 3, 1) := by decide +kernel
theorem dX2_note_29 : decode cX2_note 29 = .ok (.lastore, 1) := by decide +kernel
theorem dX2_note_30 : decode cX2_note 30 = .ok (.aload_n 0, 1) := by decide +kernel
theorem dX2_note_31 : decode cX2_note 31 = .ok (.getfield 16, 3) := by decide +kernel
theorem dX2_note_34 : decode cX2_note 34 = .ok (.aload_n 0, 1) := by decide +kernel
theorem dX2_note_35 : decode cX2_note 35 = .ok (.getfield 20, 3) := by decide +kernel
theorem dX2_note_38 : decode cX2_note 38 = .ok (.iload 5, 2) := by decide +kernel
theorem dX2_note_40 : decode cX2_note 40 = .ok (.bastore, 1) := by decide +kernel
theorem dX2_note_41 : decode cX2_note 41 = .ok (.aload_n 0, 1) := by decide +kernel
theorem dX2_note_42 : decode cX2_note 42 = .ok (.dup, 1) := by decide +kernel
theorem dX2_note_43 : decode cX2_note 43 = .ok (.getfield 20, 3) := by decide +kernel
theorem dX2_note_46 : decode cX2_note 46 = .ok (.iconst 1, 1) := by decide +kernel
theorem dX2_note_47 : decode cX2_note 47 = .ok (.iadd, 1) := by decide +kernel
theorem dX2_note_48 : decode cX2_note 48 = .ok (.putfield 20, 3) := by decide +kernel
theorem dX2_note_51 : decode cX2_note 51 = .ok (.return_, 1) := by decide +kernel
theorem dX2_frontOf_0 : decode cX2_frontOf 0 = .ok (.lconst 1, 1) := by decide +kernel
theorem dX2_frontOf_1 : decode cX2_frontOf 1 = .ok (.lstore_n 2, 1) := by decide +kernel
theorem dX2_frontOf_2 : decode cX2_frontOf 2 = .ok (.iconst 0, 1) := by decide +kernel
theorem dX2_frontOf_3 : decode cX2_frontOf 3 = .ok (.istore 4, 2) := by decide +kernel
theorem dX2_frontOf_5 : decode cX2_frontOf 5 = .ok (.iload 4, 2) := by decide +kernel
theorem dX2_frontOf_7 : decode cX2_frontOf 7 = .ok (.bipush 62, 2) := by decide +kernel
theorem dX2_frontOf_9 : decode cX2_frontOf 9 = .ok (.if_icmp .ge 21, 3) := by decide +kernel
theorem dX2_frontOf_12 : decode cX2_frontOf 12 = .ok (.lload_n 2, 1) := by decide +kernel
theorem dX2_frontOf_13 : decode cX2_frontOf 13 = .ok (.lload_n 0, 1) := by decide +kernel
theorem dX2_frontOf_14 : decode cX2_frontOf 14 = .ok (.lload_n 2, 1) := by decide +kernel
theorem dX2_frontOf_15 : decode cX2_frontOf 15 = .ok (.lsub, 1) := by decide +kernel
theorem dX2_frontOf_16 : decode cX2_frontOf 16 = .ok (.lcmp, 1) := by decide +kernel
theorem dX2_frontOf_17 : decode cX2_frontOf 17 = .ok (.ifCond .ge 13, 3) := by decide +kernel
theorem dX2_frontOf_20 : decode cX2_frontOf 20 = .ok (.lload_n 2, 1) := by decide +kernel
theorem dX2_frontOf_21 : decode cX2_frontOf 21 = .ok (.iconst 1, 1) := by decide +kernel
theorem dX2_frontOf_22 : decode cX2_frontOf 22 = .ok (.lshl, 1) := by decide +kernel
theorem dX2_frontOf_23 : decode cX2_frontOf 23 = .ok (.lstore_n 2, 1) := by decide +kernel
theorem dX2_frontOf_24 : decode cX2_frontOf 24 = .ok (.iinc 4 1, 3) := by decide +kernel
theorem dX2_frontOf_27 : decode cX2_frontOf 27 = .ok (.goto (-22), 3) := by decide +kernel
theorem dX2_frontOf_30 : decode cX2_frontOf 30 = .ok (.lload_n 2, 1) := by decide +kernel
theorem dX2_frontOf_31 : decode cX2_frontOf 31 = .ok (.lreturn, 1) := by decide +kernel
theorem dX3_init_0 : decode cX3_init 0 = .ok (.aload_n 0, 1) := by decide +kernel
theorem dX3_init_1 : decode cX3_init 1 = .ok (.invokespecial 1, 3) := by decide +kernel
theorem dX3_init_4 : decode cX3_init 4 = .ok (.aload_n 1, 1) := by decide +kernel
theorem dX3_init_5 : decode cX3_init 5 = .ok (.iconst 0, 1) := by decide +kernel
theorem dX3_init_6 : decode cX3_init 6 = .ok (.iload_n 2, 1) := by decide +kernel
theorem dX3_init_7 : decode cX3_init 7 = .ok (.invokestatic 7, 3) := by decide +kernel
theorem dX3_init_10 : decode cX3_init 10 = .ok (.ifCond .eq 7, 3) := by decide +kernel
theorem dX3_init_13 : decode cX3_init 13 = .ok (.iload_n 2, 1) := by decide +kernel
theorem dX3_init_14 : decode cX3_init 14 = .ok (.goto 4, 3) := by decide +kernel
theorem dX3_init_17 : decode cX3_init 17 = .ok (.iconst 0, 1) := by decide +kernel
theorem dX3_init_18 : decode cX3_init 18 = .ok (.istore_n 3, 1) := by decide +kernel
theorem dX3_init_19 : decode cX3_init 19 = .ok (.aload_n 0, 1) := by decide +kernel
theorem dX3_init_20 : decode cX3_init 20 = .ok (.iload_n 3, 1) := by decide +kernel
theorem dX3_init_21 : decode cX3_init 21 = .ok (.newarray .byte, 2) := by decide +kernel
theorem dX3_init_23 : decode cX3_init 23 = .ok (.putfield 13, 3) := by decide +kernel
theorem dX3_init_26 : decode cX3_init 26 = .ok (.aload_n 1, 1) := by decide +kernel
theorem dX3_init_27 : decode cX3_init 27 = .ok (.iconst 0, 1) := by decide +kernel
theorem dX3_init_28 : decode cX3_init 28 = .ok (.aload_n 0, 1) := by decide +kernel
theorem dX3_init_29 : decode cX3_init 29 = .ok (.getfield 13, 3) := by decide +kernel
theorem dX3_init_32 : decode cX3_init 32 = .ok (.iconst 0, 1) := by decide +kernel
theorem dX3_init_33 : decode cX3_init 33 = .ok (.iload_n 3, 1) := by decide +kernel
theorem dX3_init_34 : decode cX3_init 34 = .ok (.invokestatic 17, 3) := by decide +kernel
theorem dX3_init_37 : decode cX3_init 37 = .ok (.return_, 1) := by decide +kernel
theorem dX3_longAt_0 : decode cX3_longAt 0 = .ok (.aload_n 0, 1) := by decide +kernel
theorem dX3_longAt_1 : decode cX3_longAt 1 = .ok (.getfield 13, 3) := by decide +kernel
theorem dX3_longAt_4 : decode cX3_longAt 4 = .ok (.iload_n 1, 1) := by decide +kernel

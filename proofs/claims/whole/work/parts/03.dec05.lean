theorem dX8_entry_67 : decode cX8_entry 67 = .ok (.getfield 145, 3) := by decide +kernel
theorem dX8_entry_70 : decode cX8_entry 70 = .ok (.if_icmp .ge 28, 3) := by decide +kernel
theorem dX8_entry_73 : decode cX8_entry 73 = .ok (.aload_n 0, 1) := by decide +kernel
theorem dX8_entry_74 : decode cX8_entry 74 = .ok (.getfield 13, 3) := by decide +kernel
theorem dX8_entry_77 : decode cX8_entry 77 = .ok (.iload 4, 2) := by decide +kernel
theorem dX8_entry_79 : decode cX8_entry 79 = .ok (.aload_n 0, 1) := by decide +kernel
theorem dX8_entry_80 : decode cX8_entry 80 = .ok (.getfield 23, 3) := by decide +kernel
theorem dX8_entry_83 : decode cX8_entry 83 = .ok (.bipush 120, 2) := by decide +kernel
theorem dX8_entry_85 : decode cX8_entry 85 = .ok (.iload_n 3, 1) := by decide +kernel
theorem dX8_entry_86 : decode cX8_entry 86 = .ok (.imul, 1) := by decide +kernel
theorem dX8_entry_87 : decode cX8_entry 87 = .ok (.iload 4, 2) := by decide +kernel
theorem dX8_entry_89 : decode cX8_entry 89 = .ok (.iadd, 1) := by decide +kernel
theorem dX8_entry_90 : decode cX8_entry 90 = .ok (.iaload, 1) := by decide +kernel
theorem dX8_entry_91 : decode cX8_entry 91 = .ok (.iastore, 1) := by decide +kernel
theorem dX8_entry_92 : decode cX8_entry 92 = .ok (.iinc 4 1, 3) := by decide +kernel
theorem dX8_entry_95 : decode cX8_entry 95 = .ok (.goto (-31), 3) := by decide +kernel
theorem dX8_entry_98 : decode cX8_entry 98 = .ok (.aload_n 0, 1) := by decide +kernel
theorem dX8_entry_99 : decode cX8_entry 99 = .ok (.getfield 145, 3) := by decide +kernel
theorem dX8_entry_102 : decode cX8_entry 102 = .ok (.ireturn, 1) := by decide +kernel
theorem dX8_leaf_0 : decode cX8_leaf 0 = .ok (.aload_n 0, 1) := by decide +kernel
theorem dX8_leaf_1 : decode cX8_leaf 1 = .ok (.iload_n 1, 1) := by decide +kernel
theorem dX8_leaf_2 : decode cX8_leaf 2 = .ok (.invokestatic 204, 3) := by decide +kernel
theorem dX8_leaf_5 : decode cX8_leaf 5 = .ok (.ifCond .ne 7, 3) := by decide +kernel
theorem dX8_leaf_8 : decode cX8_leaf 8 = .ok (.iconst 1, 1) := by decide +kernel
theorem dX8_leaf_9 : decode cX8_leaf 9 = .ok (.goto 22, 3) := by decide +kernel
theorem dX8_leaf_12 : decode cX8_leaf 12 = .ok (.iload_n 2, 1) := by decide +kernel
theorem dX8_leaf_13 : decode cX8_leaf 13 = .ok (.ifCond .lt 13, 3) := by decide +kernel
theorem dX8_leaf_16 : decode cX8_leaf 16 = .ok (.iload_n 2, 1) := by decide +kernel
theorem dX8_leaf_17 : decode cX8_leaf 17 = .ok (.aload_n 0, 1) := by decide +kernel
theorem dX8_leaf_18 : decode cX8_leaf 18 = .ok (.getfield 29, 3) := by decide +kernel
theorem dX8_leaf_21 : decode cX8_leaf 21 = .ok (.iload_n 1, 1) := by decide +kernel
theorem dX8_leaf_22 : decode cX8_leaf 22 = .ok (.iaload, 1) := by decide +kernel
theorem dX8_leaf_23 : decode cX8_leaf 23 = .ok (.if_icmp .lt 7, 3) := by decide +kernel
theorem dX8_leaf_26 : decode cX8_leaf 26 = .ok (.iconst 2, 1) := by decide +kernel
theorem dX8_leaf_27 : decode cX8_leaf 27 = .ok (.goto 4, 3) := by decide +kernel
theorem dX8_leaf_30 : decode cX8_leaf 30 = .ok (.iconst 0, 1) := by decide +kernel
theorem dX8_leaf_31 : decode cX8_leaf 31 = .ok (.putfield 134, 3) := by decide +kernel
theorem dX8_leaf_34 : decode cX8_leaf 34 = .ok (.aload_n 0, 1) := by decide +kernel
theorem dX8_leaf_35 : decode cX8_leaf 35 = .ok (.getfield 134, 3) := by decide +kernel
theorem dX8_leaf_38 : decode cX8_leaf 38 = .ok (.ifCond .le 5, 3) := by decide +kernel
theorem dX8_leaf_41 : decode cX8_leaf 41 = .ok (.iconst 0, 1) := by decide +kernel
theorem dX8_leaf_42 : decode cX8_leaf 42 = .ok (.ireturn, 1) := by decide +kernel
theorem dX8_leaf_43 : decode cX8_leaf 43 = .ok (.aload_n 0, 1) := by decide +kernel
theorem dX8_leaf_44 : decode cX8_leaf 44 = .ok (.iload_n 1, 1) := by decide +kernel
theorem dX8_leaf_45 : decode cX8_leaf 45 = .ok (.iload_n 2, 1) := by decide +kernel
theorem dX8_leaf_46 : decode cX8_leaf 46 = .ok (.iconst 0, 1) := by decide +kernel
theorem dX8_leaf_47 : decode cX8_leaf 47 = .ok (.invokevirtual 179, 3) := by decide +kernel
theorem dX8_leaf_50 : decode cX8_leaf 50 = .ok (.aload_n 0, 1) := by decide +kernel
theorem dX8_leaf_51 : decode cX8_leaf 51 = .ok (.iconst 0, 1) := by decide +kernel
theorem dX8_leaf_52 : decode cX8_leaf 52 = .ok (.putfield 145, 3) := by decide +kernel
theorem dX8_leaf_55 : decode cX8_leaf 55 = .ok (.aload_n 0, 1) := by decide +kernel
theorem dX8_leaf_56 : decode cX8_leaf 56 = .ok (.iconst 0, 1) := by decide +kernel
theorem dX8_leaf_57 : decode cX8_leaf 57 = .ok (.invokevirtual 223, 3) := by decide +kernel
theorem dX8_leaf_60 : decode cX8_leaf 60 = .ok (.iload_n 2, 1) := by decide +kernel
theorem dX8_leaf_61 : decode cX8_leaf 61 = .ok (.aload_n 0, 1) := by decide +kernel
theorem dX8_leaf_62 : decode cX8_leaf 62 = .ok (.getfield 32, 3) := by decide +kernel
theorem dX8_leaf_65 : decode cX8_leaf 65 = .ok (.iload_n 1, 1) := by decide +kernel
theorem dX8_leaf_66 : decode cX8_leaf 66 = .ok (.iaload, 1) := by decide +kernel
theorem dX8_leaf_67 : decode cX8_leaf 67 = .ok (.if_icmp .ge 7, 3) := by decide +kernel
theorem dX8_leaf_70 : decode cX8_leaf 70 = .ok (.iconst 1, 1) := by decide +kernel
theorem dX8_leaf_71 : decode cX8_leaf 71 = .ok (.goto 4, 3) := by decide +kernel
theorem dX8_leaf_74 : decode cX8_leaf 74 = .ok (.iconst 0, 1) := by decide +kernel
theorem dX8_leaf_75 : decode cX8_leaf 75 = .ok (.ireturn, 1) := by decide +kernel
theorem dX8_find_0 : decode cX8_find 0 = .ok (.aload_n 0, 1) := by decide +kernel
theorem dX8_find_1 : decode cX8_find 1 = .ok (.invokevirtual 200, 3) := by decide +kernel
theorem dX8_find_4 : decode cX8_find 4 = .ok (.istore_n 2, 1) := by decide +kernel
theorem dX8_find_5 : decode cX8_find 5 = .ok (.aload_n 0, 1) := by decide +kernel
theorem dX8_find_6 : decode cX8_find 6 = .ok (.iload_n 1, 1) := by decide +kernel
theorem dX8_find_7 : decode cX8_find 7 = .ok (.invokestatic 204, 3) := by decide +kernel
theorem dX8_find_10 : decode cX8_find 10 = .ok (.ifCond .ne 7, 3) := by decide +kernel
theorem dX8_find_13 : decode cX8_find 13 = .ok (.iconst 1, 1) := by decide +kernel
theorem dX8_find_14 : decode cX8_find 14 = .ok (.goto 14, 3) := by decide +kernel
theorem dX8_find_17 : decode cX8_find 17 = .ok (.iload_n 2, 1) := by decide +kernel
theorem dX8_find_18 : decode cX8_find 18 = .ok (.bipush 32, 2) := by decide +kernel
theorem dX8_find_20 : decode cX8_find 20 = .ok (.if_icmp .eq 7, 3) := by decide +kernel
theorem dX8_find_23 : decode cX8_find 23 = .ok (.iconst 2, 1) := by decide +kernel
theorem dX8_find_24 : decode cX8_find 24 = .ok (.goto 4, 3) := by decide +kernel
theorem dX8_find_27 : decode cX8_find 27 = .ok (.iconst 0, 1) := by decide +kernel
theorem dX8_find_28 : decode cX8_find 28 = .ok (.putfield 134, 3) := by decide +kernel
theorem dX8_find_31 : decode cX8_find 31 = .ok (.aload_n 0, 1) := by decide +kernel
theorem dX8_find_32 : decode cX8_find 32 = .ok (.getfield 134, 3) := by decide +kernel
theorem dX8_find_35 : decode cX8_find 35 = .ok (.ifCond .le 5, 3) := by decide +kernel
theorem dX8_find_38 : decode cX8_find 38 = .ok (.iconst 0, 1) := by decide +kernel
theorem dX8_find_39 : decode cX8_find 39 = .ok (.ireturn, 1) := by decide +kernel
theorem dX8_find_40 : decode cX8_find 40 = .ok (.aload_n 0, 1) := by decide +kernel
theorem dX8_find_41 : decode cX8_find 41 = .ok (.iconst 0, 1) := by decide +kernel
theorem dX8_find_42 : decode cX8_find 42 = .ok (.iconst 0, 1) := by decide +kernel
theorem dX8_find_43 : decode cX8_find 43 = .ok (.invokevirtual 226, 3) := by decide +kernel
theorem dX8_find_46 : decode cX8_find 46 = .ok (.iconst 0, 1) := by decide +kernel
theorem dX8_find_47 : decode cX8_find 47 = .ok (.istore_n 3, 1) := by decide +kernel
theorem dX8_find_48 : decode cX8_find 48 = .ok (.iload_n 3, 1) := by decide +kernel
theorem dX8_find_49 : decode cX8_find 49 = .ok (.aload_n 0, 1) := by decide +kernel
theorem dX8_find_50 : decode cX8_find 50 = .ok (.getfield 32, 3) := by decide +kernel
theorem dX8_find_53 : decode cX8_find 53 = .ok (.iload_n 1, 1) := by decide +kernel
theorem dX8_find_54 : decode cX8_find 54 = .ok (.iaload, 1) := by decide +kernel
theorem dX8_find_55 : decode cX8_find 55 = .ok (.if_icmp .ge 27, 3) := by decide +kernel
theorem dX8_find_58 : decode cX8_find 58 = .ok (.aload_n 0, 1) := by decide +kernel
theorem dX8_find_59 : decode cX8_find 59 = .ok (.iload_n 1, 1) := by decide +kernel
theorem dX8_find_60 : decode cX8_find 60 = .ok (.iload_n 3, 1) := by decide +kernel
theorem dX8_find_61 : decode cX8_find 61 = .ok (.iconst 1, 1) := by decide +kernel
theorem dX8_find_62 : decode cX8_find 62 = .ok (.invokevirtual 179, 3) := by decide +kernel
theorem dX8_find_65 : decode cX8_find 65 = .ok (.aload_n 0, 1) := by decide +kernel
theorem dX8_find_66 : decode cX8_find 66 = .ok (.iconst 0, 1) := by decide +kernel
theorem dX8_find_67 : decode cX8_find 67 = .ok (.iconst 1, 1) := by decide +kernel
theorem dX8_find_68 : decode cX8_find 68 = .ok (.invokevirtual 229, 3) := by decide +kernel
theorem dX8_find_71 : decode cX8_find 71 = .ok (.ifCond .eq 5, 3) := by decide +kernel
theorem dX8_find_74 : decode cX8_find 74 = .ok (.iload_n 3, 1) := by decide +kernel
theorem dX8_find_75 : decode cX8_find 75 = .ok (.ireturn, 1) := by decide +kernel
theorem dX8_find_76 : decode cX8_find 76 = .ok (.iinc 3 1, 3) := by decide +kernel
theorem dX8_find_79 : decode cX8_find 79 = .ok (.goto (-31), 3) := by decide +kernel
theorem dX8_find_82 : decode cX8_find 82 = .ok (.iconst (-1), 1) := by decide +kernel
theorem dX8_find_83 : decode cX8_find 83 = .ok (.ireturn, 1) := by decide +kernel
theorem dX8_root__0 : decode cX8_root_ 0 = .ok (.aload_n 0, 1) := by decide +kernel
theorem dX8_root__1 : decode cX8_root_ 1 = .ok (.iload_n 1, 1) := by decide +kernel
theorem dX8_root__2 : decode cX8_root_ 2 = .ok (.invokestatic 204, 3) := by decide +kernel
theorem dX8_root__5 : decode cX8_root_ 5 = .ok (.ifCond .ne 7, 3) := by decide +kernel
theorem dX8_root__8 : decode cX8_root_ 8 = .ok (.iconst 1, 1) := by decide +kernel
theorem dX8_root__9 : decode cX8_root_ 9 = .ok (.goto 22, 3) := by decide +kernel
theorem dX8_root__12 : decode cX8_root_ 12 = .ok (.iload_n 2, 1) := by decide +kernel
theorem dX8_root__13 : decode cX8_root_ 13 = .ok (.ifCond .lt 13, 3) := by decide +kernel
theorem dX8_root__16 : decode cX8_root_ 16 = .ok (.iload_n 2, 1) := by decide +kernel
theorem dX8_root__17 : decode cX8_root_ 17 = .ok (.aload_n 0, 1) := by decide +kernel
theorem dX8_root__18 : decode cX8_root_ 18 = .ok (.getfield 32, 3) := by decide +kernel
theorem dX8_root__21 : decode cX8_root_ 21 = .ok (.iload_n 1, 1) := by decide +kernel
theorem dX8_root__22 : decode cX8_root_ 22 = .ok (.iaload, 1) := by decide +kernel
theorem dX8_root__23 : decode cX8_root_ 23 = .ok (.if_icmp .le 7, 3) := by decide +kernel
theorem dX8_root__26 : decode cX8_root_ 26 = .ok (.iconst 2, 1) := by decide +kernel
theorem dX8_root__27 : decode cX8_root_ 27 = .ok (.goto 4, 3) := by decide +kernel
theorem dX8_root__30 : decode cX8_root_ 30 = .ok (.iconst 0, 1) := by decide +kernel
theorem dX8_root__31 : decode cX8_root_ 31 = .ok (.putfield 134, 3) := by decide +kernel
theorem dX8_root__34 : decode cX8_root_ 34 = .ok (.aload_n 0, 1) := by decide +kernel
theorem dX8_root__35 : decode cX8_root_ 35 = .ok (.getfield 134, 3) := by decide +kernel
theorem dX8_root__38 : decode cX8_root_ 38 = .ok (.ifCond .le 5, 3) := by decide +kernel
theorem dX8_root__41 : decode cX8_root_ 41 = .ok (.iconst 0, 1) := by decide +kernel
theorem dX8_root__42 : decode cX8_root_ 42 = .ok (.ireturn, 1) := by decide +kernel
theorem dX8_root__43 : decode cX8_root_ 43 = .ok (.aload_n 0, 1) := by decide +kernel
theorem dX8_root__44 : decode cX8_root_ 44 = .ok (.iload_n 1, 1) := by decide +kernel
theorem dX8_root__45 : decode cX8_root_ 45 = .ok (.iconst 0, 1) := by decide +kernel
theorem dX8_root__46 : decode cX8_root_ 46 = .ok (.iload_n 2, 1) := by decide +kernel
theorem dX8_root__47 : decode cX8_root_ 47 = .ok (.iconst 0, 1) := by decide +kernel
theorem dX8_root__48 : decode cX8_root_ 48 = .ok (.invokestatic 189, 3) := by decide +kernel
theorem dX8_root__51 : decode cX8_root_ 51 = .ok (.aload_n 0, 1) := by decide +kernel
theorem dX8_root__52 : decode cX8_root_ 52 = .ok (.iconst 0, 1) := by decide +kernel
theorem dX8_root__53 : decode cX8_root_ 53 = .ok (.putfield 145, 3) := by decide +kernel
theorem dX8_root__56 : decode cX8_root_ 56 = .ok (.aload_n 0, 1) := by decide +kernel
theorem dX8_root__57 : decode cX8_root_ 57 = .ok (.iconst 0, 1) := by decide +kernel
theorem dX8_root__58 : decode cX8_root_ 58 = .ok (.invokevirtual 223, 3) := by decide +kernel
theorem dX8_root__61 : decode cX8_root_ 61 = .ok (.iconst 1, 1) := by decide +kernel
theorem dX8_root__62 : decode cX8_root_ 62 = .ok (.ireturn, 1) := by decide +kernel
theorem dX8_front_0 : decode cX8_front 0 = .ok (.lload_n 0, 1) := by decide +kernel
theorem dX8_front_1 : decode cX8_front 1 = .ok (.lconst 1, 1) := by decide +kernel
theorem dX8_front_2 : decode cX8_front 2 = .ok (.lsub, 1) := by decide +kernel
theorem dX8_front_3 : decode cX8_front 3 = .ok (.invokestatic 232, 3) := by decide +kernel
theorem dX8_front_6 : decode cX8_front 6 = .ok (.lreturn, 1) := by decide +kernel
theorem dX8_chainOf_0 : decode cX8_chainOf 0 = .ok (.aload_n 0, 1) := by decide +kernel
theorem dX8_chainOf_1 : decode cX8_chainOf 1 = .ok (.iconst 0, 1) := by decide +kernel
theorem dX8_chainOf_2 : decode cX8_chainOf 2 = .ok (.putfield 237, 3) := by decide +kernel
theorem dX8_chainOf_5 : decode cX8_chainOf 5 = .ok (.lload_n 1, 1) := by decide +kernel
theorem dX8_chainOf_6 : decode cX8_chainOf 6 = .ok (.lstore 5, 2) := by decide +kernel
theorem dX8_chainOf_8 : decode cX8_chainOf 8 = .ok (.lload_n 3, 1) := by decide +kernel
theorem dX8_chainOf_9 : decode cX8_chainOf 9 = .ok (.lstore 7, 2) := by decide +kernel
theorem dX8_chainOf_11 : decode cX8_chainOf 11 = .ok (.lload 7, 2) := by decide +kernel
theorem dX8_chainOf_13 : decode cX8_chainOf 13 = .ok (.lconst 1, 1) := by decide +kernel
theorem dX8_chainOf_14 : decode cX8_chainOf 14 = .ok (.lcmp, 1) := by decide +kernel
theorem dX8_chainOf_15 : decode cX8_chainOf 15 = .ok (.ifCond .le 96, 3) := by decide +kernel
theorem dX8_chainOf_18 : decode cX8_chainOf 18 = .ok (.lload 7, 2) := by decide +kernel
theorem dX8_chainOf_20 : decode cX8_chainOf 20 = .ok (.invokestatic 240, 3) := by decide +kernel
theorem dX8_chainOf_23 : decode cX8_chainOf 23 = .ok (.lstore 9, 2) := by decide +kernel
theorem dX8_chainOf_25 : decode cX8_chainOf 25 = .ok (.aload_n 0, 1) := by decide +kernel
theorem dX8_chainOf_26 : decode cX8_chainOf 26 = .ok (.getfield 131, 3) := by decide +kernel
theorem dX8_chainOf_29 : decode cX8_chainOf 29 = .ok (.aload_n 0, 1) := by decide +kernel
theorem dX8_chainOf_30 : decode cX8_chainOf 30 = .ok (.getfield 237, 3) := by decide +kernel
theorem dX8_chainOf_33 : decode cX8_chainOf 33 = .ok (.lload 5, 2) := by decide +kernel
theorem dX8_chainOf_35 : decode cX8_chainOf 35 = .ok (.lload 9, 2) := by decide +kernel
theorem dX8_chainOf_37 : decode cX8_chainOf 37 = .ok (.lcmp, 1) := by decide +kernel
theorem dX8_chainOf_38 : decode cX8_chainOf 38 = .ok (.ifCond .ge 7, 3) := by decide +kernel
theorem dX8_chainOf_41 : decode cX8_chainOf 41 = .ok (.iconst 0, 1) := by decide +kernel
theorem dX8_chainOf_42 : decode cX8_chainOf 42 = .ok (.goto 4, 3) := by decide +kernel
theorem dX8_chainOf_45 : decode cX8_chainOf 45 = .ok (.iconst 1, 1) := by decide +kernel
theorem dX8_chainOf_46 : decode cX8_chainOf 46 = .ok (.iastore, 1) := by decide +kernel
theorem dX8_chainOf_47 : decode cX8_chainOf 47 = .ok (.lload 5, 2) := by decide +kernel
theorem dX8_chainOf_49 : decode cX8_chainOf 49 = .ok (.lload 9, 2) := by decide +kernel
theorem dX8_chainOf_51 : decode cX8_chainOf 51 = .ok (.lcmp, 1) := by decide +kernel
theorem dX8_chainOf_52 : decode cX8_chainOf 52 = .ok (.ifCond .ge 8, 3) := by decide +kernel
theorem dX8_chainOf_55 : decode cX8_chainOf 55 = .ok (.lload 5, 2) := by decide +kernel
theorem dX8_chainOf_57 : decode cX8_chainOf 57 = .ok (.goto 8, 3) := by decide +kernel
theorem dX8_chainOf_60 : decode cX8_chainOf 60 = .ok (.lload 5, 2) := by decide +kernel
theorem dX8_chainOf_62 : decode cX8_chainOf 62 = .ok (.lload 9, 2) := by decide +kernel
theorem dX8_chainOf_64 : decode cX8_chainOf 64 = .ok (.lsub, 1) := by decide +kernel
theorem dX8_chainOf_65 : decode cX8_chainOf 65 = .ok (.lstore 5, 2) := by decide +kernel
theorem dX8_chainOf_67 : decode cX8_chainOf 67 = .ok (.lload 5, 2) := by decide +kernel
theorem dX8_chainOf_69 : decode cX8_chainOf 69 = .ok (.lconst 0, 1) := by decide +kernel
theorem dX8_chainOf_70 : decode cX8_chainOf 70 = .ok (.lcmp, 1) := by decide +kernel
theorem dX8_chainOf_71 : decode cX8_chainOf 71 = .ok (.ifCond .lt 20, 3) := by decide +kernel
theorem dX8_chainOf_74 : decode cX8_chainOf 74 = .ok (.aload_n 0, 1) := by decide +kernel
theorem dX8_chainOf_75 : decode cX8_chainOf 75 = .ok (.getfield 131, 3) := by decide +kernel
theorem dX8_chainOf_78 : decode cX8_chainOf 78 = .ok (.aload_n 0, 1) := by decide +kernel
theorem dX8_chainOf_79 : decode cX8_chainOf 79 = .ok (.getfield 237, 3) := by decide +kernel
theorem dX8_chainOf_82 : decode cX8_chainOf 82 = .ok (.iaload, 1) := by decide +kernel
theorem dX8_chainOf_83 : decode cX8_chainOf 83 = .ok (.ifCond .ne 8, 3) := by decide +kernel
theorem dX8_chainOf_86 : decode cX8_chainOf 86 = .ok (.lload 9, 2) := by decide +kernel
theorem dX8_chainOf_88 : decode cX8_chainOf 88 = .ok (.goto 8, 3) := by decide +kernel
theorem dX8_chainOf_91 : decode cX8_chainOf 91 = .ok (.lload 7, 2) := by decide +kernel
theorem dX8_chainOf_93 : decode cX8_chainOf 93 = .ok (.lload 9, 2) := by decide +kernel
theorem dX8_chainOf_95 : decode cX8_chainOf 95 = .ok (.lsub, 1) := by decide +kernel
theorem dX8_chainOf_96 : decode cX8_chainOf 96 = .ok (.lstore 7, 2) := by decide +kernel
theorem dX8_chainOf_98 : decode cX8_chainOf 98 = .ok (.aload_n 0, 1) := by decide +kernel
theorem dX8_chainOf_99 : decode cX8_chainOf 99 = .ok (.dup, 1) := by decide +kernel
theorem dX8_chainOf_100 : decode cX8_chainOf 100 = .ok (.getfield 237, 3) := by decide +kernel
theorem dX8_chainOf_103 : decode cX8_chainOf 103 = .ok (.iconst 1, 1) := by decide +kernel
theorem dX8_chainOf_104 : decode cX8_chainOf 104 = .ok (.iadd, 1) := by decide +kernel
theorem dX8_chainOf_105 : decode cX8_chainOf 105 = .ok (.putfield 237, 3) := by decide +kernel
theorem dX8_chainOf_108 : decode cX8_chainOf 108 = .ok (.goto (-97), 3) := by decide +kernel
theorem dX8_chainOf_111 : decode cX8_chainOf 111 = .ok (.return_, 1) := by decide +kernel
theorem dX8_way_0 : decode cX8_way 0 = .ok (.aload_n 0, 1) := by decide +kernel
theorem dX8_way_1 : decode cX8_way 1 = .ok (.iload_n 1, 1) := by decide +kernel
theorem dX8_way_2 : decode cX8_way 2 = .ok (.invokestatic 204, 3) := by decide +kernel
theorem dX8_way_5 : decode cX8_way 5 = .ok (.ifCond .ne 7, 3) := by decide +kernel
theorem dX8_way_8 : decode cX8_way 8 = .ok (.iconst 1, 1) := by decide +kernel
theorem dX8_way_9 : decode cX8_way 9 = .ok (.goto 27, 3) := by decide +kernel
theorem dX8_way_12 : decode cX8_way 12 = .ok (.iload_n 2, 1) := by decide +kernel
theorem dX8_way_13 : decode cX8_way 13 = .ok (.ifCond .lt 18, 3) := by decide +kernel
theorem dX8_way_16 : decode cX8_way 16 = .ok (.iload_n 2, 1) := by decide +kernel
theorem dX8_way_17 : decode cX8_way 17 = .ok (.iload_n 3, 1) := by decide +kernel
theorem dX8_way_18 : decode cX8_way 18 = .ok (.if_icmp .ge 13, 3) := by decide +kernel
theorem dX8_way_21 : decode cX8_way 21 = .ok (.iload_n 3, 1) := by decide +kernel
theorem dX8_way_22 : decode cX8_way 22 = .ok (.aload_n 0, 1) := by decide +kernel
theorem dX8_way_23 : decode cX8_way 23 = .ok (.getfield 32, 3) := by decide +kernel
theorem dX8_way_26 : decode cX8_way 26 = .ok (.iload_n 1, 1) := by decide +kernel
theorem dX8_way_27 : decode cX8_way 27 = .ok (.iaload, 1) := by decide +kernel
theorem dX8_way_28 : decode cX8_way 28 = .ok (.if_icmp .le 7, 3) := by decide +kernel
theorem dX8_way_31 : decode cX8_way 31 = .ok (.iconst 2, 1) := by decide +kernel
theorem dX8_way_32 : decode cX8_way 32 = .ok (.goto 4, 3) := by decide +kernel
theorem dX8_way_35 : decode cX8_way 35 = .ok (.iconst 0, 1) := by decide +kernel
theorem dX8_way_36 : decode cX8_way 36 = .ok (.putfield 134, 3) := by decide +kernel
theorem dX8_way_39 : decode cX8_way 39 = .ok (.aload_n 0, 1) := by decide +kernel
theorem dX8_way_40 : decode cX8_way 40 = .ok (.getfield 134, 3) := by decide +kernel
theorem dX8_way_43 : decode cX8_way 43 = .ok (.ifCond .le 5, 3) := by decide +kernel
theorem dX8_way_46 : decode cX8_way 46 = .ok (.iconst 0, 1) := by decide +kernel
theorem dX8_way_47 : decode cX8_way 47 = .ok (.ireturn, 1) := by decide +kernel
theorem dX8_way_48 : decode cX8_way 48 = .ok (.aload_n 0, 1) := by decide +kernel
theorem dX8_way_49 : decode cX8_way 49 = .ok (.iload_n 2, 1) := by decide +kernel
theorem dX8_way_50 : decode cX8_way 50 = .ok (.i2l, 1) := by decide +kernel
theorem dX8_way_51 : decode cX8_way 51 = .ok (.iload_n 3, 1) := by decide +kernel
theorem dX8_way_52 : decode cX8_way 52 = .ok (.i2l, 1) := by decide +kernel
theorem dX8_way_53 : decode cX8_way 53 = .ok (.invokevirtual 243, 3) := by decide +kernel
theorem dX8_way_56 : decode cX8_way 56 = .ok (.aload_n 0, 1) := by decide +kernel
theorem dX8_way_57 : decode cX8_way 57 = .ok (.iconst 0, 1) := by decide +kernel
theorem dX8_way_58 : decode cX8_way 58 = .ok (.putfield 145, 3) := by decide +kernel
theorem dX8_way_61 : decode cX8_way 61 = .ok (.aload_n 0, 1) := by decide +kernel
theorem dX8_way_62 : decode cX8_way 62 = .ok (.getfield 237, 3) := by decide +kernel
theorem dX8_way_65 : decode cX8_way 65 = .ok (.iconst 1, 1) := by decide +kernel
theorem dX8_way_66 : decode cX8_way 66 = .ok (.isub, 1) := by decide +kernel
theorem dX8_way_67 : decode cX8_way 67 = .ok (.istore 4, 2) := by decide +kernel
theorem dX8_way_69 : decode cX8_way 69 = .ok (.iload 4, 2) := by decide +kernel
theorem dX8_way_71 : decode cX8_way 71 = .ok (.ifCond .lt 22, 3) := by decide +kernel
theorem dX8_way_74 : decode cX8_way 74 = .ok (.aload_n 0, 1) := by decide +kernel
theorem dX8_way_75 : decode cX8_way 75 = .ok (.iload_n 1, 1) := by decide +kernel
theorem dX8_way_76 : decode cX8_way 76 = .ok (.iload_n 3, 1) := by decide +kernel
theorem dX8_way_77 : decode cX8_way 77 = .ok (.iload 4, 2) := by decide +kernel
theorem dX8_way_79 : decode cX8_way 79 = .ok (.invokevirtual 247, 3) := by decide +kernel
theorem dX8_way_82 : decode cX8_way 82 = .ok (.aload_n 0, 1) := by decide +kernel
theorem dX8_way_83 : decode cX8_way 83 = .ok (.iconst 0, 1) := by decide +kernel
theorem dX8_way_84 : decode cX8_way 84 = .ok (.invokevirtual 223, 3) := by decide +kernel
theorem dX8_way_87 : decode cX8_way 87 = .ok (.iinc 4 (-1), 3) := by decide +kernel
theorem dX8_way_90 : decode cX8_way 90 = .ok (.goto (-21), 3) := by decide +kernel
theorem dX8_way_93 : decode cX8_way 93 = .ok (.aload_n 0, 1) := by decide +kernel
theorem dX8_way_94 : decode cX8_way 94 = .ok (.getfield 237, 3) := by decide +kernel
theorem dX8_way_97 : decode cX8_way 97 = .ok (.ireturn, 1) := by decide +kernel
theorem dX8_other_0 : decode cX8_other 0 = .ok (.iconst 0, 1) := by decide +kernel
theorem dX8_other_1 : decode cX8_other 1 = .ok (.istore 4, 2) := by decide +kernel
theorem dX8_other_3 : decode cX8_other 3 = .ok (.iload_n 2, 1) := by decide +kernel
theorem dX8_other_4 : decode cX8_other 4 = .ok (.istore 5, 2) := by decide +kernel
theorem dX8_other_6 : decode cX8_other 6 = .ok (.iconst 0, 1) := by decide +kernel
theorem dX8_other_7 : decode cX8_other 7 = .ok (.istore 6, 2) := by decide +kernel
theorem dX8_other_9 : decode cX8_other 9 = .ok (.iload 6, 2) := by decide +kernel
theorem dX8_other_11 : decode cX8_other 11 = .ok (.iload_n 3, 1) := by decide +kernel
theorem dX8_other_12 : decode cX8_other 12 = .ok (.if_icmp .ge 61, 3) := by decide +kernel
theorem dX8_other_15 : decode cX8_other 15 = .ok (.iload 5, 2) := by decide +kernel
theorem dX8_other_17 : decode cX8_other 17 = .ok (.i2l, 1) := by decide +kernel
theorem dX8_other_18 : decode cX8_other 18 = .ok (.invokestatic 240, 3) := by decide +kernel
theorem dX8_other_21 : decode cX8_other 21 = .ok (.l2i, 1) := by decide +kernel
theorem dX8_other_22 : decode cX8_other 22 = .ok (.istore 7, 2) := by decide +kernel
theorem dX8_other_24 : decode cX8_other 24 = .ok (.iload 4, 2) := by decide +kernel
theorem dX8_other_26 : decode cX8_other 26 = .ok (.aload_n 0, 1) := by decide +kernel
theorem dX8_other_27 : decode cX8_other 27 = .ok (.getfield 131, 3) := by decide +kernel
theorem dX8_other_30 : decode cX8_other 30 = .ok (.iload 6, 2) := by decide +kernel
theorem dX8_other_32 : decode cX8_other 32 = .ok (.iaload, 1) := by decide +kernel
theorem dX8_other_33 : decode cX8_other 33 = .ok (.ifCond .ne 7, 3) := by decide +kernel
theorem dX8_other_36 : decode cX8_other 36 = .ok (.iconst 0, 1) := by decide +kernel
theorem dX8_other_37 : decode cX8_other 37 = .ok (.goto 5, 3) := by decide +kernel
theorem dX8_other_40 : decode cX8_other 40 = .ok (.iload 7, 2) := by decide +kernel
theorem dX8_other_42 : decode cX8_other 42 = .ok (.iadd, 1) := by decide +kernel
theorem dX8_other_43 : decode cX8_other 43 = .ok (.istore 4, 2) := by decide +kernel
theorem dX8_other_45 : decode cX8_other 45 = .ok (.aload_n 0, 1) := by decide +kernel
theorem dX8_other_46 : decode cX8_other 46 = .ok (.getfield 131, 3) := by decide +kernel
theorem dX8_other_49 : decode cX8_other 49 = .ok (.iload 6, 2) := by decide +kernel
theorem dX8_other_51 : decode cX8_other 51 = .ok (.iaload, 1) := by decide +kernel
theorem dX8_other_52 : decode cX8_other 52 = .ok (.ifCond .ne 8, 3) := by decide +kernel
theorem dX8_other_55 : decode cX8_other 55 = .ok (.iload 7, 2) := by decide +kernel
theorem dX8_other_57 : decode cX8_other 57 = .ok (.goto 8, 3) := by decide +kernel
theorem dX8_other_60 : decode cX8_other 60 = .ok (.iload 5, 2) := by decide +kernel
theorem dX8_other_62 : decode cX8_other 62 = .ok (.iload 7, 2) := by decide +kernel
theorem dX8_other_64 : decode cX8_other 64 = .ok (.isub, 1) := by decide +kernel
theorem dX8_other_65 : decode cX8_other 65 = .ok (.istore 5, 2) := by decide +kernel
theorem dX8_other_67 : decode cX8_other 67 = .ok (.iinc 6 1, 3) := by decide +kernel
theorem dX8_other_70 : decode cX8_other 70 = .ok (.goto (-61), 3) := by decide +kernel
theorem dX8_other_73 : decode cX8_other 73 = .ok (.iload 5, 2) := by decide +kernel
theorem dX8_other_75 : decode cX8_other 75 = .ok (.i2l, 1) := by decide +kernel
theorem dX8_other_76 : decode cX8_other 76 = .ok (.invokestatic 240, 3) := by decide +kernel
theorem dX8_other_79 : decode cX8_other 79 = .ok (.l2i, 1) := by decide +kernel
theorem dX8_other_80 : decode cX8_other 80 = .ok (.istore 6, 2) := by decide +kernel
theorem dX8_other_82 : decode cX8_other 82 = .ok (.aload_n 0, 1) := by decide +kernel
theorem dX8_other_83 : decode cX8_other 83 = .ok (.getfield 131, 3) := by decide +kernel
theorem dX8_other_86 : decode cX8_other 86 = .ok (.iload_n 3, 1) := by decide +kernel
theorem dX8_other_87 : decode cX8_other 87 = .ok (.iaload, 1) := by decide +kernel
theorem dX8_other_88 : decode cX8_other 88 = .ok (.ifCond .ne 22, 3) := by decide +kernel
theorem dX8_other_91 : decode cX8_other 91 = .ok (.aload_n 0, 1) := by decide +kernel
theorem dX8_other_92 : decode cX8_other 92 = .ok (.iload_n 1, 1) := by decide +kernel
theorem dX8_other_93 : decode cX8_other 93 = .ok (.iload 4, 2) := by decide +kernel
theorem dX8_other_95 : decode cX8_other 95 = .ok (.iload 6, 2) := by decide +kernel
theorem dX8_other_97 : decode cX8_other 97 = .ok (.iadd, 1) := by decide +kernel
theorem dX8_other_98 : decode cX8_other 98 = .ok (.iload 5, 2) := by decide +kernel
theorem dX8_other_100 : decode cX8_other 100 = .ok (.iload 6, 2) := by decide +kernel
theorem dX8_other_102 : decode cX8_other 102 = .ok (.isub, 1) := by decide +kernel
theorem dX8_other_103 : decode cX8_other 103 = .ok (.iconst 0, 1) := by decide +kernel
theorem dX8_other_104 : decode cX8_other 104 = .ok (.invokestatic 189, 3) := by decide +kernel
theorem dX8_other_107 : decode cX8_other 107 = .ok (.goto 13, 3) := by decide +kernel
theorem dX8_other_110 : decode cX8_other 110 = .ok (.aload_n 0, 1) := by decide +kernel
theorem dX8_other_111 : decode cX8_other 111 = .ok (.iload_n 1, 1) := by decide +kernel
theorem dX8_other_112 : decode cX8_other 112 = .ok (.iload 4, 2) := by decide +kernel
theorem dX8_other_114 : decode cX8_other 114 = .ok (.iload 6, 2) := by decide +kernel
theorem dX8_other_116 : decode cX8_other 116 = .ok (.iconst 0, 1) := by decide +kernel
theorem dX8_other_117 : decode cX8_other 117 = .ok (.invokestatic 189, 3) := by decide +kernel
theorem dX8_other_120 : decode cX8_other 120 = .ok (.return_, 1) := by decide +kernel
theorem dX8_stepsOf_0 : decode cX8_stepsOf 0 = .ok (.aload_n 0, 1) := by decide +kernel
theorem dX8_stepsOf_1 : decode cX8_stepsOf 1 = .ok (.iconst 0, 1) := by decide +kernel
theorem dX8_stepsOf_2 : decode cX8_stepsOf 2 = .ok (.putfield 237, 3) := by decide +kernel
theorem dX8_stepsOf_5 : decode cX8_stepsOf 5 = .ok (.aload_n 0, 1) := by decide +kernel
theorem dX8_stepsOf_6 : decode cX8_stepsOf 6 = .ok (.iconst 1, 1) := by decide +kernel
theorem dX8_stepsOf_7 : decode cX8_stepsOf 7 = .ok (.putfield 250, 3) := by decide +kernel
theorem dX8_stepsOf_10 : decode cX8_stepsOf 10 = .ok (.lload_n 1, 1) := by decide +kernel
theorem dX8_stepsOf_11 : decode cX8_stepsOf 11 = .ok (.lstore 5, 2) := by decide +kernel
theorem dX8_stepsOf_13 : decode cX8_stepsOf 13 = .ok (.lload_n 3, 1) := by decide +kernel
theorem dX8_stepsOf_14 : decode cX8_stepsOf 14 = .ok (.lstore 7, 2) := by decide +kernel
theorem dX8_stepsOf_16 : decode cX8_stepsOf 16 = .ok (.lload 5, 2) := by decide +kernel
theorem dX8_stepsOf_18 : decode cX8_stepsOf 18 = .ok (.lload 7, 2) := by decide +kernel
theorem dX8_stepsOf_20 : decode cX8_stepsOf 20 = .ok (.lcmp, 1) := by decide +kernel
theorem dX8_stepsOf_21 : decode cX8_stepsOf 21 = .ok (.ifCond .eq 109, 3) := by decide +kernel
theorem dX8_stepsOf_24 : decode cX8_stepsOf 24 = .ok (.lload 7, 2) := by decide +kernel
theorem dX8_stepsOf_26 : decode cX8_stepsOf 26 = .ok (.invokestatic 240, 3) := by decide +kernel
theorem dX8_stepsOf_29 : decode cX8_stepsOf 29 = .ok (.lstore 9, 2) := by decide +kernel
theorem dX8_stepsOf_31 : decode cX8_stepsOf 31 = .ok (.aload_n 0, 1) := by decide +kernel
theorem dX8_stepsOf_32 : decode cX8_stepsOf 32 = .ok (.getfield 131, 3) := by decide +kernel
theorem dX8_stepsOf_35 : decode cX8_stepsOf 35 = .ok (.aload_n 0, 1) := by decide +kernel
theorem dX8_stepsOf_36 : decode cX8_stepsOf 36 = .ok (.getfield 237, 3) := by decide +kernel
theorem dX8_stepsOf_39 : decode cX8_stepsOf 39 = .ok (.lload 5, 2) := by decide +kernel
theorem dX8_stepsOf_41 : decode cX8_stepsOf 41 = .ok (.lload 9, 2) := by decide +kernel
theorem dX8_stepsOf_43 : decode cX8_stepsOf 43 = .ok (.lcmp, 1) := by decide +kernel
theorem dX8_stepsOf_44 : decode cX8_stepsOf 44 = .ok (.ifCond .gt 7, 3) := by decide +kernel
theorem dX8_stepsOf_47 : decode cX8_stepsOf 47 = .ok (.iconst 0, 1) := by decide +kernel
theorem dX8_stepsOf_48 : decode cX8_stepsOf 48 = .ok (.goto 4, 3) := by decide +kernel
theorem dX8_stepsOf_51 : decode cX8_stepsOf 51 = .ok (.iconst 1, 1) := by decide +kernel
theorem dX8_stepsOf_52 : decode cX8_stepsOf 52 = .ok (.iastore, 1) := by decide +kernel
theorem dX8_stepsOf_53 : decode cX8_stepsOf 53 = .ok (.aload_n 0, 1) := by decide +kernel
theorem dX8_stepsOf_54 : decode cX8_stepsOf 54 = .ok (.aload_n 0, 1) := by decide +kernel
theorem dX8_stepsOf_55 : decode cX8_stepsOf 55 = .ok (.getfield 250, 3) := by decide +kernel
theorem dX8_stepsOf_58 : decode cX8_stepsOf 58 = .ok (.ifCond .eq 15, 3) := by decide +kernel
theorem dX8_stepsOf_61 : decode cX8_stepsOf 61 = .ok (.lload 5, 2) := by decide +kernel
theorem dX8_stepsOf_63 : decode cX8_stepsOf 63 = .ok (.lload 9, 2) := by decide +kernel
theorem dX8_stepsOf_65 : decode cX8_stepsOf 65 = .ok (.lcmp, 1) := by decide +kernel
theorem dX8_stepsOf_66 : decode cX8_stepsOf 66 = .ok (.ifCond .gt 7, 3) := by decide +kernel
theorem dX8_stepsOf_69 : decode cX8_stepsOf 69 = .ok (.iconst 1, 1) := by decide +kernel
theorem dX8_stepsOf_70 : decode cX8_stepsOf 70 = .ok (.goto 4, 3) := by decide +kernel
theorem dX8_stepsOf_73 : decode cX8_stepsOf 73 = .ok (.iconst 0, 1) := by decide +kernel
theorem dX8_stepsOf_74 : decode cX8_stepsOf 74 = .ok (.putfield 250, 3) := by decide +kernel
theorem dX8_stepsOf_77 : decode cX8_stepsOf 77 = .ok (.lload 5, 2) := by decide +kernel
theorem dX8_stepsOf_79 : decode cX8_stepsOf 79 = .ok (.lload 9, 2) := by decide +kernel
theorem dX8_stepsOf_81 : decode cX8_stepsOf 81 = .ok (.lcmp, 1) := by decide +kernel
theorem dX8_stepsOf_82 : decode cX8_stepsOf 82 = .ok (.ifCond .gt 8, 3) := by decide +kernel
theorem dX8_stepsOf_85 : decode cX8_stepsOf 85 = .ok (.lload 9, 2) := by decide +kernel
theorem dX8_stepsOf_87 : decode cX8_stepsOf 87 = .ok (.goto 8, 3) := by decide +kernel
theorem dX8_stepsOf_90 : decode cX8_stepsOf 90 = .ok (.lload 7, 2) := by decide +kernel
theorem dX8_stepsOf_92 : decode cX8_stepsOf 92 = .ok (.lload 9, 2) := by decide +kernel
theorem dX8_stepsOf_94 : decode cX8_stepsOf 94 = .ok (.lsub, 1) := by decide +kernel
theorem dX8_stepsOf_95 : decode cX8_stepsOf 95 = .ok (.lstore 7, 2) := by decide +kernel
theorem dX8_stepsOf_97 : decode cX8_stepsOf 97 = .ok (.lload 5, 2) := by decide +kernel
theorem dX8_stepsOf_99 : decode cX8_stepsOf 99 = .ok (.lload 9, 2) := by decide +kernel
theorem dX8_stepsOf_101 : decode cX8_stepsOf 101 = .ok (.lcmp, 1) := by decide +kernel
theorem dX8_stepsOf_102 : decode cX8_stepsOf 102 = .ok (.ifCond .gt 8, 3) := by decide +kernel
theorem dX8_stepsOf_105 : decode cX8_stepsOf 105 = .ok (.lload 5, 2) := by decide +kernel
theorem dX8_stepsOf_107 : decode cX8_stepsOf 107 = .ok (.goto 8, 3) := by decide +kernel
theorem dX8_stepsOf_110 : decode cX8_stepsOf 110 = .ok (.lload 5, 2) := by decide +kernel
theorem dX8_stepsOf_112 : decode cX8_stepsOf 112 = .ok (.lload 9, 2) := by decide +kernel
theorem dX8_stepsOf_114 : decode cX8_stepsOf 114 = .ok (.lsub, 1) := by decide +kernel
theorem dX8_stepsOf_115 : decode cX8_stepsOf 115 = .ok (.lstore 5, 2) := by decide +kernel
theorem dX8_stepsOf_117 : decode cX8_stepsOf 117 = .ok (.aload_n 0, 1) := by decide +kernel
theorem dX8_stepsOf_118 : decode cX8_stepsOf 118 = .ok (.dup, 1) := by decide +kernel
theorem dX8_stepsOf_119 : decode cX8_stepsOf 119 = .ok (.getfield 237, 3) := by decide +kernel
theorem dX8_stepsOf_122 : decode cX8_stepsOf 122 = .ok (.iconst 1, 1) := by decide +kernel
theorem dX8_stepsOf_123 : decode cX8_stepsOf 123 = .ok (.iadd, 1) := by decide +kernel
theorem dX8_stepsOf_124 : decode cX8_stepsOf 124 = .ok (.putfield 237, 3) := by decide +kernel
theorem dX8_stepsOf_127 : decode cX8_stepsOf 127 = .ok (.goto (-111), 3) := by decide +kernel
theorem dX8_stepsOf_130 : decode cX8_stepsOf 130 = .ok (.return_, 1) := by decide +kernel
theorem dX8_proof_0 : decode cX8_proof 0 = .ok (.aload_n 0, 1) := by decide +kernel
theorem dX8_proof_1 : decode cX8_proof 1 = .ok (.iload_n 1, 1) := by decide +kernel
theorem dX8_proof_2 : decode cX8_proof 2 = .ok (.invokestatic 204, 3) := by decide +kernel
theorem dX8_proof_5 : decode cX8_proof 5 = .ok (.ifCond .ne 7, 3) := by decide +kernel
theorem dX8_proof_8 : decode cX8_proof 8 = .ok (.iconst 1, 1) := by decide +kernel
theorem dX8_proof_9 : decode cX8_proof 9 = .ok (.goto 27, 3) := by decide +kernel
theorem dX8_proof_12 : decode cX8_proof 12 = .ok (.iload_n 2, 1) := by decide +kernel
theorem dX8_proof_13 : decode cX8_proof 13 = .ok (.ifCond .le 18, 3) := by decide +kernel
theorem dX8_proof_16 : decode cX8_proof 16 = .ok (.iload_n 2, 1) := by decide +kernel
theorem dX8_proof_17 : decode cX8_proof 17 = .ok (.iload_n 3, 1) := by decide +kernel
theorem dX8_proof_18 : decode cX8_proof 18 = .ok (.if_icmp .gt 13, 3) := by decide +kernel
theorem dX8_proof_21 : decode cX8_proof 21 = .ok (.iload_n 3, 1) := by decide +kernel
theorem dX8_proof_22 : decode cX8_proof 22 = .ok (.aload_n 0, 1) := by decide +kernel
theorem dX8_proof_23 : decode cX8_proof 23 = .ok (.getfield 32, 3) := by decide +kernel
theorem dX8_proof_26 : decode cX8_proof 26 = .ok (.iload_n 1, 1) := by decide +kernel
theorem dX8_proof_27 : decode cX8_proof 27 = .ok (.iaload, 1) := by decide +kernel
theorem dX8_proof_28 : decode cX8_proof 28 = .ok (.if_icmp .le 7, 3) := by decide +kernel
theorem dX8_proof_31 : decode cX8_proof 31 = .ok (.iconst 2, 1) := by decide +kernel
theorem dX8_proof_32 : decode cX8_proof 32 = .ok (.goto 4, 3) := by decide +kernel
theorem dX8_proof_35 : decode cX8_proof 35 = .ok (.iconst 0, 1) := by decide +kernel
theorem dX8_proof_36 : decode cX8_proof 36 = .ok (.putfield 134, 3) := by decide +kernel
theorem dX8_proof_39 : decode cX8_proof 39 = .ok (.aload_n 0, 1) := by decide +kernel
theorem dX8_proof_40 : decode cX8_proof 40 = .ok (.getfield 134, 3) := by decide +kernel
theorem dX8_proof_43 : decode cX8_proof 43 = .ok (.ifCond .le 5, 3) := by decide +kernel
theorem dX8_proof_46 : decode cX8_proof 46 = .ok (.iconst 0, 1) := by decide +kernel
theorem dX8_proof_47 : decode cX8_proof 47 = .ok (.ireturn, 1) := by decide +kernel
theorem dX8_proof_48 : decode cX8_proof 48 = .ok (.aload_n 0, 1) := by decide +kernel
theorem dX8_proof_49 : decode cX8_proof 49 = .ok (.iload_n 2, 1) := by decide +kernel
theorem dX8_proof_50 : decode cX8_proof 50 = .ok (.i2l, 1) := by decide +kernel
theorem dX8_proof_51 : decode cX8_proof 51 = .ok (.iload_n 3, 1) := by decide +kernel
theorem dX8_proof_52 : decode cX8_proof 52 = .ok (.i2l, 1) := by decide +kernel
theorem dX8_proof_53 : decode cX8_proof 53 = .ok (.invokevirtual 254, 3) := by decide +kernel
theorem dX8_proof_56 : decode cX8_proof 56 = .ok (.aload_n 0, 1) := by decide +kernel
theorem dX8_proof_57 : decode cX8_proof 57 = .ok (.iconst 0, 1) := by decide +kernel
theorem dX8_proof_58 : decode cX8_proof 58 = .ok (.putfield 145, 3) := by decide +kernel
theorem dX8_proof_61 : decode cX8_proof 61 = .ok (.aload_n 0, 1) := by decide +kernel
theorem dX8_proof_62 : decode cX8_proof 62 = .ok (.getfield 250, 3) := by decide +kernel
theorem dX8_proof_65 : decode cX8_proof 65 = .ok (.ifCond .ne 14, 3) := by decide +kernel
theorem dX8_proof_68 : decode cX8_proof 68 = .ok (.aload_n 0, 1) := by decide +kernel
theorem dX8_proof_69 : decode cX8_proof 69 = .ok (.iload_n 1, 1) := by decide +kernel
theorem dX8_proof_70 : decode cX8_proof 70 = .ok (.iload_n 3, 1) := by decide +kernel
theorem dX8_proof_71 : decode cX8_proof 71 = .ok (.invokevirtual 257, 3) := by decide +kernel
theorem dX8_proof_74 : decode cX8_proof 74 = .ok (.aload_n 0, 1) := by decide +kernel
theorem dX8_proof_75 : decode cX8_proof 75 = .ok (.iconst 0, 1) := by decide +kernel
theorem dX8_proof_76 : decode cX8_proof 76 = .ok (.invokevirtual 223, 3) := by decide +kernel
theorem dX8_proof_79 : decode cX8_proof 79 = .ok (.aload_n 0, 1) := by decide +kernel
theorem dX8_proof_80 : decode cX8_proof 80 = .ok (.getfield 237, 3) := by decide +kernel
theorem dX8_proof_83 : decode cX8_proof 83 = .ok (.iconst 1, 1) := by decide +kernel
theorem dX8_proof_84 : decode cX8_proof 84 = .ok (.isub, 1) := by decide +kernel
theorem dX8_proof_85 : decode cX8_proof 85 = .ok (.istore 4, 2) := by decide +kernel
theorem dX8_proof_87 : decode cX8_proof 87 = .ok (.iload 4, 2) := by decide +kernel
theorem dX8_proof_89 : decode cX8_proof 89 = .ok (.ifCond .lt 22, 3) := by decide +kernel
theorem dX8_proof_92 : decode cX8_proof 92 = .ok (.aload_n 0, 1) := by decide +kernel
theorem dX8_proof_93 : decode cX8_proof 93 = .ok (.iload_n 1, 1) := by decide +kernel
theorem dX8_proof_94 : decode cX8_proof 94 = .ok (.iload_n 3, 1) := by decide +kernel
theorem dX8_proof_95 : decode cX8_proof 95 = .ok (.iload 4, 2) := by decide +kernel
theorem dX8_proof_97 : decode cX8_proof 97 = .ok (.invokevirtual 247, 3) := by decide +kernel
theorem dX8_proof_100 : decode cX8_proof 100 = .ok (.aload_n 0, 1) := by decide +kernel
theorem dX8_proof_101 : decode cX8_proof 101 = .ok (.iconst 0, 1) := by decide +kernel
theorem dX8_proof_102 : decode cX8_proof 102 = .ok (.invokevirtual 223, 3) := by decide +kernel
theorem dX8_proof_105 : decode cX8_proof 105 = .ok (.iinc 4 (-1), 3) := by decide +kernel
theorem dX8_proof_108 : decode cX8_proof 108 = .ok (.goto (-21), 3) := by decide +kernel
theorem dX8_proof_111 : decode cX8_proof 111 = .ok (.aload_n 0, 1) := by decide +kernel
theorem dX8_proof_112 : decode cX8_proof 112 = .ok (.getfield 145, 3) := by decide +kernel
theorem dX8_proof_115 : decode cX8_proof 115 = .ok (.bipush 32, 2) := by decide +kernel
theorem dX8_proof_117 : decode cX8_proof 117 = .ok (.idiv, 1) := by decide +kernel
theorem dX8_proof_118 : decode cX8_proof 118 = .ok (.ireturn, 1) := by decide +kernel
theorem dX8_inner_0 : decode cX8_inner 0 = .ok (.iconst 0, 1) := by decide +kernel
theorem dX8_inner_1 : decode cX8_inner 1 = .ok (.istore_n 3, 1) := by decide +kernel
theorem dX8_inner_2 : decode cX8_inner 2 = .ok (.iload_n 2, 1) := by decide +kernel
theorem dX8_inner_3 : decode cX8_inner 3 = .ok (.istore 4, 2) := by decide +kernel
theorem dX8_inner_5 : decode cX8_inner 5 = .ok (.iconst 0, 1) := by decide +kernel
theorem dX8_inner_6 : decode cX8_inner 6 = .ok (.istore 5, 2) := by decide +kernel
theorem dX8_inner_8 : decode cX8_inner 8 = .ok (.iload 5, 2) := by decide +kernel
theorem dX8_inner_10 : decode cX8_inner 10 = .ok (.aload_n 0, 1) := by decide +kernel
theorem dX8_inner_11 : decode cX8_inner 11 = .ok (.getfield 237, 3) := by decide +kernel
theorem dX8_inner_14 : decode cX8_inner 14 = .ok (.if_icmp .ge 59, 3) := by decide +kernel
theorem dX8_inner_17 : decode cX8_inner 17 = .ok (.iload 4, 2) := by decide +kernel
theorem dX8_inner_19 : decode cX8_inner 19 = .ok (.i2l, 1) := by decide +kernel
theorem dX8_inner_20 : decode cX8_inner 20 = .ok (.invokestatic 240, 3) := by decide +kernel
theorem dX8_inner_23 : decode cX8_inner 23 = .ok (.l2i, 1) := by decide +kernel
theorem dX8_inner_24 : decode cX8_inner 24 = .ok (.istore 6, 2) := by decide +kernel
theorem dX8_inner_26 : decode cX8_inner 26 = .ok (.iload_n 3, 1) := by decide +kernel
theorem dX8_inner_27 : decode cX8_inner 27 = .ok (.aload_n 0, 1) := by decide +kernel
theorem dX8_inner_28 : decode cX8_inner 28 = .ok (.getfield 131, 3) := by decide +kernel
theorem dX8_inner_31 : decode cX8_inner 31 = .ok (.iload 5, 2) := by decide +kernel
theorem dX8_inner_33 : decode cX8_inner 33 = .ok (.iaload, 1) := by decide +kernel
theorem dX8_inner_34 : decode cX8_inner 34 = .ok (.ifCond .ne 7, 3) := by decide +kernel
theorem dX8_inner_37 : decode cX8_inner 37 = .ok (.iconst 0, 1) := by decide +kernel
theorem dX8_inner_38 : decode cX8_inner 38 = .ok (.goto 5, 3) := by decide +kernel
theorem dX8_inner_41 : decode cX8_inner 41 = .ok (.iload 6, 2) := by decide +kernel
theorem dX8_inner_43 : decode cX8_inner 43 = .ok (.iadd, 1) := by decide +kernel
theorem dX8_inner_44 : decode cX8_inner 44 = .ok (.istore_n 3, 1) := by decide +kernel
theorem dX8_inner_45 : decode cX8_inner 45 = .ok (.aload_n 0, 1) := by decide +kernel
theorem dX8_inner_46 : decode cX8_inner 46 = .ok (.getfield 131, 3) := by decide +kernel
theorem dX8_inner_49 : decode cX8_inner 49 = .ok (.iload 5, 2) := by decide +kernel
theorem dX8_inner_51 : decode cX8_inner 51 = .ok (.iaload, 1) := by decide +kernel
theorem dX8_inner_52 : decode cX8_inner 52 = .ok (.ifCond .ne 8, 3) := by decide +kernel
theorem dX8_inner_55 : decode cX8_inner 55 = .ok (.iload 6, 2) := by decide +kernel
theorem dX8_inner_57 : decode cX8_inner 57 = .ok (.goto 8, 3) := by decide +kernel
theorem dX8_inner_60 : decode cX8_inner 60 = .ok (.iload 4, 2) := by decide +kernel
theorem dX8_inner_62 : decode cX8_inner 62 = .ok (.iload 6, 2) := by decide +kernel
theorem dX8_inner_64 : decode cX8_inner 64 = .ok (.isub, 1) := by decide +kernel
theorem dX8_inner_65 : decode cX8_inner 65 = .ok (.istore 4, 2) := by decide +kernel
theorem dX8_inner_67 : decode cX8_inner 67 = .ok (.iinc 5 1, 3) := by decide +kernel
theorem dX8_inner_70 : decode cX8_inner 70 = .ok (.goto (-62), 3) := by decide +kernel
theorem dX8_inner_73 : decode cX8_inner 73 = .ok (.aload_n 0, 1) := by decide +kernel
theorem dX8_inner_74 : decode cX8_inner 74 = .ok (.iload_n 1, 1) := by decide +kernel
theorem dX8_inner_75 : decode cX8_inner 75 = .ok (.iload_n 3, 1) := by decide +kernel
theorem dX8_inner_76 : decode cX8_inner 76 = .ok (.iload 4, 2) := by decide +kernel
theorem dX8_inner_78 : decode cX8_inner 78 = .ok (.iconst 0, 1) := by decide +kernel
theorem dX8_inner_79 : decode cX8_inner 79 = .ok (.invokestatic 189, 3) := by decide +kernel
theorem dX8_inner_82 : decode cX8_inner 82 = .ok (.return_, 1) := by decide +kernel
theorem dX8_isIn_0 : decode cX8_isIn 0 = .ok (.aload_n 0, 1) := by decide +kernel
theorem dX8_isIn_1 : decode cX8_isIn 1 = .ok (.invokevirtual 200, 3) := by decide +kernel
theorem dX8_isIn_4 : decode cX8_isIn 4 = .ok (.istore 5, 2) := by decide +kernel
theorem dX8_isIn_6 : decode cX8_isIn 6 = .ok (.aload_n 0, 1) := by decide +kernel
theorem dX8_isIn_7 : decode cX8_isIn 7 = .ok (.iconst 0, 1) := by decide +kernel
theorem dX8_isIn_8 : decode cX8_isIn 8 = .ok (.putfield 134, 3) := by decide +kernel
theorem dX8_isIn_11 : decode cX8_isIn 11 = .ok (.lload_n 1, 1) := by decide +kernel
theorem dX8_isIn_12 : decode cX8_isIn 12 = .ok (.lconst 0, 1) := by decide +kernel
theorem dX8_isIn_13 : decode cX8_isIn 13 = .ok (.lcmp, 1) := by decide +kernel
theorem dX8_isIn_14 : decode cX8_isIn 14 = .ok (.ifCond .lt 16, 3) := by decide +kernel
theorem dX8_isIn_17 : decode cX8_isIn 17 = .ok (.lload_n 1, 1) := by decide +kernel
theorem dX8_isIn_18 : decode cX8_isIn 18 = .ok (.lload_n 3, 1) := by decide +kernel
theorem dX8_isIn_19 : decode cX8_isIn 19 = .ok (.lcmp, 1) := by decide +kernel
theorem dX8_isIn_20 : decode cX8_isIn 20 = .ok (.ifCond .ge 10, 3) := by decide +kernel
theorem dX8_isIn_23 : decode cX8_isIn 23 = .ok (.iload 5, 2) := by decide +kernel
theorem dX8_isIn_25 : decode cX8_isIn 25 = .ok (.bipush 64, 2) := by decide +kernel
theorem dX8_isIn_27 : decode cX8_isIn 27 = .ok (.if_icmp .ge 5, 3) := by decide +kernel
theorem dX8_isIn_30 : decode cX8_isIn 30 = .ok (.iconst 0, 1) := by decide +kernel
theorem dX8_isIn_31 : decode cX8_isIn 31 = .ok (.ireturn, 1) := by decide +kernel
theorem dX8_isIn_32 : decode cX8_isIn 32 = .ok (.aload_n 0, 1) := by decide +kernel
theorem dX8_isIn_33 : decode cX8_isIn 33 = .ok (.lload_n 1, 1) := by decide +kernel
theorem dX8_isIn_34 : decode cX8_isIn 34 = .ok (.lload_n 3, 1) := by decide +kernel
theorem dX8_isIn_35 : decode cX8_isIn 35 = .ok (.invokevirtual 243, 3) := by decide +kernel
theorem dX8_isIn_38 : decode cX8_isIn 38 = .ok (.iload 5, 2) := by decide +kernel
theorem dX8_isIn_40 : decode cX8_isIn 40 = .ok (.bipush 64, 2) := by decide +kernel
theorem dX8_isIn_42 : decode cX8_isIn 42 = .ok (.bipush 32, 2) := by decide +kernel
theorem dX8_isIn_44 : decode cX8_isIn 44 = .ok (.aload_n 0, 1) := by decide +kernel
theorem dX8_isIn_45 : decode cX8_isIn 45 = .ok (.getfield 237, 3) := by decide +kernel
theorem dX8_isIn_48 : decode cX8_isIn 48 = .ok (.imul, 1) := by decide +kernel
theorem dX8_isIn_49 : decode cX8_isIn 49 = .ok (.iadd, 1) := by decide +kernel
theorem dX8_isIn_50 : decode cX8_isIn 50 = .ok (.if_icmp .eq 5, 3) := by decide +kernel
theorem dX8_isIn_53 : decode cX8_isIn 53 = .ok (.iconst 0, 1) := by decide +kernel
theorem dX8_isIn_54 : decode cX8_isIn 54 = .ok (.ireturn, 1) := by decide +kernel
theorem dX8_isIn_55 : decode cX8_isIn 55 = .ok (.aload_n 0, 1) := by decide +kernel
theorem dX8_isIn_56 : decode cX8_isIn 56 = .ok (.iconst 0, 1) := by decide +kernel
theorem dX8_isIn_57 : decode cX8_isIn 57 = .ok (.iconst 0, 1) := by decide +kernel
theorem dX8_isIn_58 : decode cX8_isIn 58 = .ok (.invokevirtual 226, 3) := by decide +kernel
theorem dX8_isIn_61 : decode cX8_isIn 61 = .ok (.aload_n 0, 1) := by decide +kernel
theorem dX8_isIn_62 : decode cX8_isIn 62 = .ok (.bipush 32, 2) := by decide +kernel
theorem dX8_isIn_64 : decode cX8_isIn 64 = .ok (.iconst 1, 1) := by decide +kernel
theorem dX8_isIn_65 : decode cX8_isIn 65 = .ok (.invokevirtual 226, 3) := by decide +kernel
theorem dX8_isIn_68 : decode cX8_isIn 68 = .ok (.aload_n 0, 1) := by decide +kernel
theorem dX8_isIn_69 : decode cX8_isIn 69 = .ok (.getfield 237, 3) := by decide +kernel
theorem dX8_isIn_72 : decode cX8_isIn 72 = .ok (.iconst 1, 1) := by decide +kernel
theorem dX8_isIn_73 : decode cX8_isIn 73 = .ok (.isub, 1) := by decide +kernel
theorem dX8_isIn_74 : decode cX8_isIn 74 = .ok (.istore 6, 2) := by decide +kernel
theorem dX8_isIn_76 : decode cX8_isIn 76 = .ok (.iload 6, 2) := by decide +kernel
theorem dX8_isIn_78 : decode cX8_isIn 78 = .ok (.ifCond .lt 56, 3) := by decide +kernel
theorem dX8_isIn_81 : decode cX8_isIn 81 = .ok (.aload_n 0, 1) := by decide +kernel
theorem dX8_isIn_82 : decode cX8_isIn 82 = .ok (.bipush 64, 2) := by decide +kernel
theorem dX8_isIn_84 : decode cX8_isIn 84 = .ok (.bipush 32, 2) := by decide +kernel
theorem dX8_isIn_86 : decode cX8_isIn 86 = .ok (.aload_n 0, 1) := by decide +kernel
theorem dX8_isIn_87 : decode cX8_isIn 87 = .ok (.getfield 237, 3) := by decide +kernel
theorem dX8_isIn_90 : decode cX8_isIn 90 = .ok (.iconst 1, 1) := by decide +kernel
theorem dX8_isIn_91 : decode cX8_isIn 91 = .ok (.isub, 1) := by decide +kernel
theorem dX8_isIn_92 : decode cX8_isIn 92 = .ok (.iload 6, 2) := by decide +kernel
theorem dX8_isIn_94 : decode cX8_isIn 94 = .ok (.isub, 1) := by decide +kernel
theorem dX8_isIn_95 : decode cX8_isIn 95 = .ok (.imul, 1) := by decide +kernel
theorem dX8_isIn_96 : decode cX8_isIn 96 = .ok (.iadd, 1) := by decide +kernel
theorem dX8_isIn_97 : decode cX8_isIn 97 = .ok (.iconst 2, 1) := by decide +kernel
theorem dX8_isIn_98 : decode cX8_isIn 98 = .ok (.invokevirtual 226, 3) := by decide +kernel
theorem dX8_isIn_101 : decode cX8_isIn 101 = .ok (.aload_n 0, 1) := by decide +kernel
theorem dX8_isIn_102 : decode cX8_isIn 102 = .ok (.getfield 131, 3) := by decide +kernel
theorem dX8_isIn_105 : decode cX8_isIn 105 = .ok (.iload 6, 2) := by decide +kernel
theorem dX8_isIn_107 : decode cX8_isIn 107 = .ok (.iaload, 1) := by decide +kernel
theorem dX8_isIn_108 : decode cX8_isIn 108 = .ok (.ifCond .ne 13, 3) := by decide +kernel
theorem dX8_isIn_111 : decode cX8_isIn 111 = .ok (.aload_n 0, 1) := by decide +kernel
theorem dX8_isIn_112 : decode cX8_isIn 112 = .ok (.iconst 1, 1) := by decide +kernel
theorem dX8_isIn_113 : decode cX8_isIn 113 = .ok (.iconst 2, 1) := by decide +kernel
theorem dX8_isIn_114 : decode cX8_isIn 114 = .ok (.iconst 1, 1) := by decide +kernel
theorem dX8_isIn_115 : decode cX8_isIn 115 = .ok (.invokevirtual 193, 3) := by decide +kernel
theorem dX8_isIn_118 : decode cX8_isIn 118 = .ok (.goto 10, 3) := by decide +kernel
theorem dX8_isIn_121 : decode cX8_isIn 121 = .ok (.aload_n 0, 1) := by decide +kernel
theorem dX8_isIn_122 : decode cX8_isIn 122 = .ok (.iconst 2, 1) := by decide +kernel
theorem dX8_isIn_123 : decode cX8_isIn 123 = .ok (.iconst 1, 1) := by decide +kernel
theorem dX8_isIn_124 : decode cX8_isIn 124 = .ok (.iconst 1, 1) := by decide +kernel
theorem dX8_isIn_125 : decode cX8_isIn 125 = .ok (.invokevirtual 193, 3) := by decide +kernel
theorem dX8_isIn_128 : decode cX8_isIn 128 = .ok (.iinc 6 (-1), 3) := by decide +kernel
theorem dX8_isIn_131 : decode cX8_isIn 131 = .ok (.goto (-55), 3) := by decide +kernel
theorem dX8_isIn_134 : decode cX8_isIn 134 = .ok (.aload_n 0, 1) := by decide +kernel
theorem dX8_isIn_135 : decode cX8_isIn 135 = .ok (.iconst 0, 1) := by decide +kernel
theorem dX8_isIn_136 : decode cX8_isIn 136 = .ok (.iconst 1, 1) := by decide +kernel
theorem dX8_isIn_137 : decode cX8_isIn 137 = .ok (.invokevirtual 229, 3) := by decide +kernel
theorem dX8_isIn_140 : decode cX8_isIn 140 = .ok (.ireturn, 1) := by decide +kernel
theorem dX8_isOn_0 : decode cX8_isOn 0 = .ok (.aload_n 0, 1) := by decide +kernel
theorem dX8_isOn_1 : decode cX8_isOn 1 = .ok (.invokevirtual 200, 3) := by decide +kernel
theorem dX8_isOn_4 : decode cX8_isOn 4 = .ok (.istore 5, 2) := by decide +kernel
theorem dX8_isOn_6 : decode cX8_isOn 6 = .ok (.aload_n 0, 1) := by decide +kernel
theorem dX8_isOn_7 : decode cX8_isOn 7 = .ok (.iconst 0, 1) := by decide +kernel
theorem dX8_isOn_8 : decode cX8_isOn 8 = .ok (.putfield 134, 3) := by decide +kernel
theorem dX8_isOn_11 : decode cX8_isOn 11 = .ok (.lload_n 1, 1) := by decide +kernel
theorem dX8_isOn_12 : decode cX8_isOn 12 = .ok (.lconst 0, 1) := by decide +kernel
theorem dX8_isOn_13 : decode cX8_isOn 13 = .ok (.lcmp, 1) := by decide +kernel
theorem dX8_isOn_14 : decode cX8_isOn 14 = .ok (.ifCond .le 16, 3) := by decide +kernel
theorem dX8_isOn_17 : decode cX8_isOn 17 = .ok (.lload_n 1, 1) := by decide +kernel
theorem dX8_isOn_18 : decode cX8_isOn 18 = .ok (.lload_n 3, 1) := by decide +kernel
theorem dX8_isOn_19 : decode cX8_isOn 19 = .ok (.lcmp, 1) := by decide +kernel
theorem dX8_isOn_20 : decode cX8_isOn 20 = .ok (.ifCond .gt 10, 3) := by decide +kernel
theorem dX8_isOn_23 : decode cX8_isOn 23 = .ok (.iload 5, 2) := by decide +kernel
theorem dX8_isOn_25 : decode cX8_isOn 25 = .ok (.bipush 64, 2) := by decide +kernel
theorem dX8_isOn_27 : decode cX8_isOn 27 = .ok (.if_icmp .ge 5, 3) := by decide +kernel
theorem dX8_isOn_30 : decode cX8_isOn 30 = .ok (.iconst 0, 1) := by decide +kernel
theorem dX8_isOn_31 : decode cX8_isOn 31 = .ok (.ireturn, 1) := by decide +kernel
theorem dX8_isOn_32 : decode cX8_isOn 32 = .ok (.aload_n 0, 1) := by decide +kernel
theorem dX8_isOn_33 : decode cX8_isOn 33 = .ok (.iconst 0, 1) := by decide +kernel
theorem dX8_isOn_34 : decode cX8_isOn 34 = .ok (.bipush 10, 2) := by decide +kernel
theorem dX8_isOn_36 : decode cX8_isOn 36 = .ok (.invokevirtual 226, 3) := by decide +kernel
theorem dX8_isOn_39 : decode cX8_isOn 39 = .ok (.aload_n 0, 1) := by decide +kernel
theorem dX8_isOn_40 : decode cX8_isOn 40 = .ok (.bipush 32, 2) := by decide +kernel
theorem dX8_isOn_42 : decode cX8_isOn 42 = .ok (.bipush 11, 2) := by decide +kernel
theorem dX8_isOn_44 : decode cX8_isOn 44 = .ok (.invokevirtual 226, 3) := by decide +kernel
theorem dX8_isOn_47 : decode cX8_isOn 47 = .ok (.aload_n 0, 1) := by decide +kernel
theorem dX8_isOn_48 : decode cX8_isOn 48 = .ok (.lload_n 1, 1) := by decide +kernel
theorem dX8_isOn_49 : decode cX8_isOn 49 = .ok (.lload_n 3, 1) := by decide +kernel
theorem dX8_isOn_50 : decode cX8_isOn 50 = .ok (.bipush 64, 2) := by decide +kernel
theorem dX8_isOn_52 : decode cX8_isOn 52 = .ok (.iload 5, 2) := by decide +kernel
theorem dX8_isOn_54 : decode cX8_isOn 54 = .ok (.invokevirtual 260, 3) := by decide +kernel
theorem dX8_isOn_57 : decode cX8_isOn 57 = .ok (.ireturn, 1) := by decide +kernel
theorem dX8_goesOn_0 : decode cX8_goesOn 0 = .ok (.aload_n 0, 1) := by decide +kernel
theorem dX8_goesOn_1 : decode cX8_goesOn 1 = .ok (.lload_n 1, 1) := by decide +kernel
theorem dX8_goesOn_2 : decode cX8_goesOn 2 = .ok (.lload_n 3, 1) := by decide +kernel
theorem dX8_goesOn_3 : decode cX8_goesOn 3 = .ok (.invokevirtual 254, 3) := by decide +kernel
theorem dX8_goesOn_6 : decode cX8_goesOn 6 = .ok (.aload_n 0, 1) := by decide +kernel
theorem dX8_goesOn_7 : decode cX8_goesOn 7 = .ok (.getfield 237, 3) := by decide +kernel
theorem dX8_goesOn_10 : decode cX8_goesOn 10 = .ok (.aload_n 0, 1) := by decide +kernel
theorem dX8_goesOn_11 : decode cX8_goesOn 11 = .ok (.getfield 250, 3) := by decide +kernel
theorem dX8_goesOn_14 : decode cX8_goesOn 14 = .ok (.ifCond .eq 7, 3) := by decide +kernel
theorem dX8_goesOn_17 : decode cX8_goesOn 17 = .ok (.iconst 0, 1) := by decide +kernel
theorem dX8_goesOn_18 : decode cX8_goesOn 18 = .ok (.goto 4, 3) := by decide +kernel
theorem dX8_goesOn_21 : decode cX8_goesOn 21 = .ok (.iconst 1, 1) := by decide +kernel
theorem dX8_goesOn_22 : decode cX8_goesOn 22 = .ok (.iadd, 1) := by decide +kernel
theorem dX8_goesOn_23 : decode cX8_goesOn 23 = .ok (.istore 7, 2) := by decide +kernel
theorem dX8_goesOn_25 : decode cX8_goesOn 25 = .ok (.iload 6, 2) := by decide +kernel
theorem dX8_goesOn_27 : decode cX8_goesOn 27 = .ok (.iload 5, 2) := by decide +kernel
theorem dX8_goesOn_29 : decode cX8_goesOn 29 = .ok (.isub, 1) := by decide +kernel
theorem dX8_goesOn_30 : decode cX8_goesOn 30 = .ok (.bipush 32, 2) := by decide +kernel
theorem dX8_goesOn_32 : decode cX8_goesOn 32 = .ok (.iload 7, 2) := by decide +kernel
theorem dX8_goesOn_34 : decode cX8_goesOn 34 = .ok (.imul, 1) := by decide +kernel
theorem dX8_goesOn_35 : decode cX8_goesOn 35 = .ok (.if_icmp .eq 5, 3) := by decide +kernel
theorem dX8_goesOn_38 : decode cX8_goesOn 38 = .ok (.iconst 0, 1) := by decide +kernel
theorem dX8_goesOn_39 : decode cX8_goesOn 39 = .ok (.ireturn, 1) := by decide +kernel
theorem dX8_goesOn_40 : decode cX8_goesOn 40 = .ok (.iload 5, 2) := by decide +kernel
theorem dX8_goesOn_42 : decode cX8_goesOn 42 = .ok (.istore 8, 2) := by decide +kernel
theorem dX8_goesOn_44 : decode cX8_goesOn 44 = .ok (.aload_n 0, 1) := by decide +kernel
theorem dX8_goesOn_45 : decode cX8_goesOn 45 = .ok (.bipush 10, 2) := by decide +kernel
theorem dX8_goesOn_47 : decode cX8_goesOn 47 = .ok (.bipush 12, 2) := by decide +kernel
theorem dX8_goesOn_49 : decode cX8_goesOn 49 = .ok (.invokevirtual 212, 3) := by decide +kernel
theorem dX8_goesOn_52 : decode cX8_goesOn 52 = .ok (.aload_n 0, 1) := by decide +kernel
theorem dX8_goesOn_53 : decode cX8_goesOn 53 = .ok (.getfield 250, 3) := by decide +kernel
theorem dX8_goesOn_56 : decode cX8_goesOn 56 = .ok (.ifCond .ne 14, 3) := by decide +kernel
theorem dX8_goesOn_59 : decode cX8_goesOn 59 = .ok (.aload_n 0, 1) := by decide +kernel
theorem dX8_goesOn_60 : decode cX8_goesOn 60 = .ok (.iload 8, 2) := by decide +kernel
theorem dX8_goesOn_62 : decode cX8_goesOn 62 = .ok (.bipush 12, 2) := by decide +kernel
theorem dX8_goesOn_64 : decode cX8_goesOn 64 = .ok (.invokevirtual 226, 3) := by decide +kernel
theorem dX8_goesOn_67 : decode cX8_goesOn 67 = .ok (.iinc 8 32, 3) := by decide +kernel
theorem dX8_goesOn_70 : decode cX8_goesOn 70 = .ok (.aload_n 0, 1) := by decide +kernel
theorem dX8_goesOn_71 : decode cX8_goesOn 71 = .ok (.bipush 12, 2) := by decide +kernel
theorem dX8_goesOn_73 : decode cX8_goesOn 73 = .ok (.bipush 13, 2) := by decide +kernel
theorem dX8_goesOn_75 : decode cX8_goesOn 75 = .ok (.invokevirtual 212, 3) := by decide +kernel
theorem dX8_goesOn_78 : decode cX8_goesOn 78 = .ok (.aload_n 0, 1) := by decide +kernel
theorem dX8_goesOn_79 : decode cX8_goesOn 79 = .ok (.getfield 237, 3) := by decide +kernel
theorem dX8_goesOn_82 : decode cX8_goesOn 82 = .ok (.iconst 1, 1) := by decide +kernel
theorem dX8_goesOn_83 : decode cX8_goesOn 83 = .ok (.isub, 1) := by decide +kernel
theorem dX8_goesOn_84 : decode cX8_goesOn 84 = .ok (.istore 9, 2) := by decide +kernel
theorem dX8_goesOn_86 : decode cX8_goesOn 86 = .ok (.iload 9, 2) := by decide +kernel
theorem dX8_goesOn_88 : decode cX8_goesOn 88 = .ok (.ifCond .lt 63, 3) := by decide +kernel
theorem dX8_goesOn_91 : decode cX8_goesOn 91 = .ok (.aload_n 0, 1) := by decide +kernel
theorem dX8_goesOn_92 : decode cX8_goesOn 92 = .ok (.iload 8, 2) := by decide +kernel
theorem dX8_goesOn_94 : decode cX8_goesOn 94 = .ok (.bipush 14, 2) := by decide +kernel
theorem dX8_goesOn_96 : decode cX8_goesOn 96 = .ok (.invokevirtual 226, 3) := by decide +kernel
theorem dX8_goesOn_99 : decode cX8_goesOn 99 = .ok (.iinc 8 32, 3) := by decide +kernel
theorem dX8_goesOn_102 : decode cX8_goesOn 102 = .ok (.aload_n 0, 1) := by decide +kernel
theorem dX8_goesOn_103 : decode cX8_goesOn 103 = .ok (.getfield 131, 3) := by decide +kernel
theorem dX8_goesOn_106 : decode cX8_goesOn 106 = .ok (.iload 9, 2) := by decide +kernel
theorem dX8_goesOn_108 : decode cX8_goesOn 108 = .ok (.iaload, 1) := by decide +kernel
theorem dX8_goesOn_109 : decode cX8_goesOn 109 = .ok (.ifCond .ne 16, 3) := by decide +kernel
theorem dX8_goesOn_112 : decode cX8_goesOn 112 = .ok (.aload_n 0, 1) := by decide +kernel
theorem dX8_goesOn_113 : decode cX8_goesOn 113 = .ok (.bipush 13, 2) := by decide +kernel
theorem dX8_goesOn_115 : decode cX8_goesOn 115 = .ok (.bipush 14, 2) := by decide +kernel
theorem dX8_goesOn_117 : decode cX8_goesOn 117 = .ok (.bipush 13, 2) := by decide +kernel
theorem dX8_goesOn_119 : decode cX8_goesOn 119 = .ok (.invokevirtual 193, 3) := by decide +kernel
theorem dX8_goesOn_122 : decode cX8_goesOn 122 = .ok (.goto 23, 3) := by decide +kernel
theorem dX8_goesOn_125 : decode cX8_goesOn 125 = .ok (.aload_n 0, 1) := by decide +kernel
theorem dX8_goesOn_126 : decode cX8_goesOn 126 = .ok (.bipush 14, 2) := by decide +kernel
theorem dX8_goesOn_128 : decode cX8_goesOn 128 = .ok (.bipush 12, 2) := by decide +kernel
theorem dX8_goesOn_130 : decode cX8_goesOn 130 = .ok (.bipush 12, 2) := by decide +kernel
theorem dX8_goesOn_132 : decode cX8_goesOn 132 = .ok (.invokevirtual 193, 3) := by decide +kernel
theorem dX8_goesOn_135 : decode cX8_goesOn 135 = .ok (.aload_n 0, 1) := by decide +kernel
theorem dX8_goesOn_136 : decode cX8_goesOn 136 = .ok (.bipush 14, 2) := by decide +kernel
theorem dX8_goesOn_138 : decode cX8_goesOn 138 = .ok (.bipush 13, 2) := by decide +kernel
theorem dX8_goesOn_140 : decode cX8_goesOn 140 = .ok (.bipush 13, 2) := by decide +kernel
theorem dX8_goesOn_142 : decode cX8_goesOn 142 = .ok (.invokevirtual 193, 3) := by decide +kernel
theorem dX8_goesOn_145 : decode cX8_goesOn 145 = .ok (.iinc 9 (-1), 3) := by decide +kernel
theorem dX8_goesOn_148 : decode cX8_goesOn 148 = .ok (.goto (-62), 3) := by decide +kernel
theorem dX8_goesOn_151 : decode cX8_goesOn 151 = .ok (.aload_n 0, 1) := by decide +kernel
theorem dX8_goesOn_152 : decode cX8_goesOn 152 = .ok (.bipush 10, 2) := by decide +kernel
theorem dX8_goesOn_154 : decode cX8_goesOn 154 = .ok (.bipush 12, 2) := by decide +kernel
theorem dX8_goesOn_156 : decode cX8_goesOn 156 = .ok (.invokevirtual 229, 3) := by decide +kernel
theorem dX8_goesOn_159 : decode cX8_goesOn 159 = .ok (.ifCond .eq 18, 3) := by decide +kernel
theorem dX8_goesOn_162 : decode cX8_goesOn 162 = .ok (.aload_n 0, 1) := by decide +kernel
theorem dX8_goesOn_163 : decode cX8_goesOn 163 = .ok (.bipush 11, 2) := by decide +kernel
theorem dX8_goesOn_165 : decode cX8_goesOn 165 = .ok (.bipush 13, 2) := by decide +kernel
theorem dX8_goesOn_167 : decode cX8_goesOn 167 = .ok (.invokevirtual 229, 3) := by decide +kernel
theorem dX8_goesOn_170 : decode cX8_goesOn 170 = .ok (.ifCond .eq 7, 3) := by decide +kernel
theorem dX8_goesOn_173 : decode cX8_goesOn 173 = .ok (.iconst 1, 1) := by decide +kernel
theorem dX8_goesOn_174 : decode cX8_goesOn 174 = .ok (.goto 4, 3) := by decide +kernel
theorem dX8_goesOn_177 : decode cX8_goesOn 177 = .ok (.iconst 0, 1) := by decide +kernel
theorem dX8_goesOn_178 : decode cX8_goesOn 178 = .ok (.ireturn, 1) := by decide +kernel
theorem dX8_sealed_0 : decode cX8_sealed 0 = .ok (.aload_n 0, 1) := by decide +kernel
theorem dX8_sealed_1 : decode cX8_sealed 1 = .ok (.bipush 16, 2) := by decide +kernel
theorem dX8_sealed_3 : decode cX8_sealed 3 = .ok (.iconst 0, 1) := by decide +kernel
theorem dX8_sealed_4 : decode cX8_sealed 4 = .ok (.invokevirtual 226, 3) := by decide +kernel
theorem dX8_sealed_7 : decode cX8_sealed 7 = .ok (.aload_n 0, 1) := by decide +kernel
theorem dX8_sealed_8 : decode cX8_sealed 8 = .ok (.iload_n 1, 1) := by decide +kernel
theorem dX8_sealed_9 : decode cX8_sealed 9 = .ok (.aload_n 0, 1) := by decide +kernel
theorem dX8_sealed_10 : decode cX8_sealed 10 = .ok (.iconst 0, 1) := by decide +kernel
theorem dX8_sealed_11 : decode cX8_sealed 11 = .ok (.invokevirtual 264, 3) := by decide +kernel
theorem dX8_sealed_14 : decode cX8_sealed 14 = .ok (.aload_n 0, 1) := by decide +kernel
theorem dX8_sealed_15 : decode cX8_sealed 15 = .ok (.bipush 8, 2) := by decide +kernel
theorem dX8_sealed_17 : decode cX8_sealed 17 = .ok (.invokevirtual 264, 3) := by decide +kernel
theorem dX8_sealed_20 : decode cX8_sealed 20 = .ok (.invokevirtual 215, 3) := by decide +kernel
theorem dX8_sealed_23 : decode cX8_sealed 23 = .ok (.aload_n 0, 1) := by decide +kernel
theorem dX8_sealed_24 : decode cX8_sealed 24 = .ok (.bipush 48, 2) := by decide +kernel
theorem dX8_sealed_26 : decode cX8_sealed 26 = .ok (.iconst 5, 1) := by decide +kernel
theorem dX8_sealed_27 : decode cX8_sealed 27 = .ok (.invokevirtual 226, 3) := by decide +kernel
theorem dX8_sealed_30 : decode cX8_sealed 30 = .ok (.aload_n 0, 1) := by decide +kernel
theorem dX8_sealed_31 : decode cX8_sealed 31 = .ok (.iconst 1, 1) := by decide +kernel
theorem dX8_sealed_32 : decode cX8_sealed 32 = .ok (.iconst 5, 1) := by decide +kernel
theorem dX8_sealed_33 : decode cX8_sealed 33 = .ok (.invokevirtual 229, 3) := by decide +kernel
theorem dX8_sealed_36 : decode cX8_sealed 36 = .ok (.ireturn, 1) := by decide +kernel
theorem dX8_isSealed_0 : decode cX8_isSealed 0 = .ok (.aload_n 0, 1) := by decide +kernel
theorem dX8_isSealed_1 : decode cX8_isSealed 1 = .ok (.invokevirtual 200, 3) := by decide +kernel
theorem dX8_isSealed_4 : decode cX8_isSealed 4 = .ok (.istore_n 2, 1) := by decide +kernel
theorem dX8_isSealed_5 : decode cX8_isSealed 5 = .ok (.aload_n 0, 1) := by decide +kernel
theorem dX8_isSealed_6 : decode cX8_isSealed 6 = .ok (.iload_n 1, 1) := by decide +kernel
theorem dX8_isSealed_7 : decode cX8_isSealed 7 = .ok (.invokestatic 204, 3) := by decide +kernel
theorem dX8_isSealed_10 : decode cX8_isSealed 10 = .ok (.ifCond .ne 7, 3) := by decide +kernel
theorem dX8_isSealed_13 : decode cX8_isSealed 13 = .ok (.iconst 1, 1) := by decide +kernel
theorem dX8_isSealed_14 : decode cX8_isSealed 14 = .ok (.goto 14, 3) := by decide +kernel
theorem dX8_isSealed_17 : decode cX8_isSealed 17 = .ok (.iload_n 2, 1) := by decide +kernel
theorem dX8_isSealed_18 : decode cX8_isSealed 18 = .ok (.bipush 80, 2) := by decide +kernel
theorem dX8_isSealed_20 : decode cX8_isSealed 20 = .ok (.if_icmp .eq 7, 3) := by decide +kernel
theorem dX8_isSealed_23 : decode cX8_isSealed 23 = .ok (.iconst 2, 1) := by decide +kernel
theorem dX8_isSealed_24 : decode cX8_isSealed 24 = .ok (.goto 4, 3) := by decide +kernel
theorem dX8_isSealed_27 : decode cX8_isSealed 27 = .ok (.iconst 0, 1) := by decide +kernel
theorem dX8_isSealed_28 : decode cX8_isSealed 28 = .ok (.putfield 134, 3) := by decide +kernel
theorem dX8_isSealed_31 : decode cX8_isSealed 31 = .ok (.aload_n 0, 1) := by decide +kernel
theorem dX8_isSealed_32 : decode cX8_isSealed 32 = .ok (.getfield 134, 3) := by decide +kernel
theorem dX8_isSealed_35 : decode cX8_isSealed 35 = .ok (.ifCond .ne 15, 3) := by decide +kernel
theorem dX8_isSealed_38 : decode cX8_isSealed 38 = .ok (.aload_n 0, 1) := by decide +kernel
theorem dX8_isSealed_39 : decode cX8_isSealed 39 = .ok (.iload_n 1, 1) := by decide +kernel
theorem dX8_isSealed_40 : decode cX8_isSealed 40 = .ok (.invokevirtual 268, 3) := by decide +kernel
theorem dX8_isSealed_43 : decode cX8_isSealed 43 = .ok (.ifCond .eq 7, 3) := by decide +kernel
theorem dX8_isSealed_46 : decode cX8_isSealed 46 = .ok (.iconst 1, 1) := by decide +kernel
theorem dX8_isSealed_47 : decode cX8_isSealed 47 = .ok (.goto 4, 3) := by decide +kernel
theorem dX8_isSealed_50 : decode cX8_isSealed 50 = .ok (.iconst 0, 1) := by decide +kernel
theorem dX8_isSealed_51 : decode cX8_isSealed 51 = .ok (.ireturn, 1) := by decide +kernel
theorem dX8_seal_0 : decode cX8_seal 0 = .ok (.aload_n 0, 1) := by decide +kernel
theorem dX8_seal_1 : decode cX8_seal 1 = .ok (.invokevirtual 200, 3) := by decide +kernel
theorem dX8_seal_4 : decode cX8_seal 4 = .ok (.istore_n 2, 1) := by decide +kernel
theorem dX8_seal_5 : decode cX8_seal 5 = .ok (.aload_n 0, 1) := by decide +kernel
theorem dX8_seal_6 : decode cX8_seal 6 = .ok (.iload_n 1, 1) := by decide +kernel
theorem dX8_seal_7 : decode cX8_seal 7 = .ok (.invokestatic 204, 3) := by decide +kernel
theorem dX8_seal_10 : decode cX8_seal 10 = .ok (.ifCond .ne 7, 3) := by decide +kernel
theorem dX8_seal_13 : decode cX8_seal 13 = .ok (.iconst 1, 1) := by decide +kernel
theorem dX8_seal_14 : decode cX8_seal 14 = .ok (.goto 14, 3) := by decide +kernel
theorem dX8_seal_17 : decode cX8_seal 17 = .ok (.iload_n 2, 1) := by decide +kernel
theorem dX8_seal_18 : decode cX8_seal 18 = .ok (.bipush 48, 2) := by decide +kernel
theorem dX8_seal_20 : decode cX8_seal 20 = .ok (.if_icmp .eq 7, 3) := by decide +kernel
theorem dX8_seal_23 : decode cX8_seal 23 = .ok (.iconst 2, 1) := by decide +kernel
theorem dX8_seal_24 : decode cX8_seal 24 = .ok (.goto 4, 3) := by decide +kernel
theorem dX8_seal_27 : decode cX8_seal 27 = .ok (.iconst 0, 1) := by decide +kernel
theorem dX8_seal_28 : decode cX8_seal 28 = .ok (.putfield 134, 3) := by decide +kernel
theorem dX8_seal_31 : decode cX8_seal 31 = .ok (.aload_n 0, 1) := by decide +kernel
theorem dX8_seal_32 : decode cX8_seal 32 = .ok (.getfield 134, 3) := by decide +kernel
theorem dX8_seal_35 : decode cX8_seal 35 = .ok (.ifCond .le 5, 3) := by decide +kernel
theorem dX8_seal_38 : decode cX8_seal 38 = .ok (.iconst 0, 1) := by decide +kernel
theorem dX8_seal_39 : decode cX8_seal 39 = .ok (.ireturn, 1) := by decide +kernel
theorem dX8_seal_40 : decode cX8_seal 40 = .ok (.aload_n 0, 1) := by decide +kernel
theorem dX8_seal_41 : decode cX8_seal 41 = .ok (.bipush 16, 2) := by decide +kernel
theorem dX8_seal_43 : decode cX8_seal 43 = .ok (.iconst 0, 1) := by decide +kernel
theorem dX8_seal_44 : decode cX8_seal 44 = .ok (.invokevirtual 226, 3) := by decide +kernel
theorem dX8_seal_47 : decode cX8_seal 47 = .ok (.aload_n 0, 1) := by decide +kernel
theorem dX8_seal_48 : decode cX8_seal 48 = .ok (.iload_n 1, 1) := by decide +kernel
theorem dX8_seal_49 : decode cX8_seal 49 = .ok (.aload_n 0, 1) := by decide +kernel
theorem dX8_seal_50 : decode cX8_seal 50 = .ok (.iconst 0, 1) := by decide +kernel
theorem dX8_seal_51 : decode cX8_seal 51 = .ok (.invokevirtual 264, 3) := by decide +kernel
theorem dX8_seal_54 : decode cX8_seal 54 = .ok (.aload_n 0, 1) := by decide +kernel
theorem dX8_seal_55 : decode cX8_seal 55 = .ok (.bipush 8, 2) := by decide +kernel
theorem dX8_seal_57 : decode cX8_seal 57 = .ok (.invokevirtual 264, 3) := by decide +kernel
theorem dX8_seal_60 : decode cX8_seal 60 = .ok (.invokevirtual 215, 3) := by decide +kernel
theorem dX8_seal_63 : decode cX8_seal 63 = .ok (.iconst 0, 1) := by decide +kernel
theorem dX8_seal_64 : decode cX8_seal 64 = .ok (.istore_n 3, 1) := by decide +kernel
theorem dX8_seal_65 : decode cX8_seal 65 = .ok (.iload_n 3, 1) := by decide +kernel
theorem dX8_seal_66 : decode cX8_seal 66 = .ok (.bipush 48, 2) := by decide +kernel
theorem dX8_seal_68 : decode cX8_seal 68 = .ok (.if_icmp .ge 21, 3) := by decide +kernel
theorem dX8_seal_71 : decode cX8_seal 71 = .ok (.aload_n 0, 1) := by decide +kernel
theorem dX8_seal_72 : decode cX8_seal 72 = .ok (.getfield 13, 3) := by decide +kernel
theorem dX8_seal_75 : decode cX8_seal 75 = .ok (.iload_n 3, 1) := by decide +kernel
theorem dX8_seal_76 : decode cX8_seal 76 = .ok (.aload_n 0, 1) := by decide +kernel
theorem dX8_seal_77 : decode cX8_seal 77 = .ok (.getfield 7, 3) := by decide +kernel
theorem dX8_seal_80 : decode cX8_seal 80 = .ok (.iload_n 3, 1) := by decide +kernel
theorem dX8_seal_81 : decode cX8_seal 81 = .ok (.iaload, 1) := by decide +kernel
theorem dX8_seal_82 : decode cX8_seal 82 = .ok (.iastore, 1) := by decide +kernel
theorem dX8_seal_83 : decode cX8_seal 83 = .ok (.iinc 3 1, 3) := by decide +kernel
theorem dX8_seal_86 : decode cX8_seal 86 = .ok (.goto (-21), 3) := by decide +kernel
theorem dX8_seal_89 : decode cX8_seal 89 = .ok (.aload_n 0, 1) := by decide +kernel
theorem dX8_seal_90 : decode cX8_seal 90 = .ok (.bipush 48, 2) := by decide +kernel
theorem dX8_seal_92 : decode cX8_seal 92 = .ok (.putfield 145, 3) := by decide +kernel
theorem dX8_seal_95 : decode cX8_seal 95 = .ok (.aload_n 0, 1) := by decide +kernel
theorem dX8_seal_96 : decode cX8_seal 96 = .ok (.iconst 1, 1) := by decide +kernel
theorem dX8_seal_97 : decode cX8_seal 97 = .ok (.invokevirtual 223, 3) := by decide +kernel
theorem dX8_seal_100 : decode cX8_seal 100 = .ok (.iconst 1, 1) := by decide +kernel
theorem dX8_seal_101 : decode cX8_seal 101 = .ok (.ireturn, 1) := by decide +kernel
theorem dX8_isWitness_0 : decode cX8_isWitness 0 = .ok (.iload_n 0, 1) := by decide +kernel
theorem dX8_isWitness_1 : decode cX8_isWitness 1 = .ok (.ifCond .lt 12, 3) := by decide +kernel
theorem dX8_isWitness_4 : decode cX8_isWitness 4 = .ok (.iload_n 0, 1) := by decide +kernel
theorem dX8_isWitness_5 : decode cX8_isWitness 5 = .ok (.iconst 3, 1) := by decide +kernel
theorem dX8_isWitness_6 : decode cX8_isWitness 6 = .ok (.if_icmp .gt 7, 3) := by decide +kernel
theorem dX8_isWitness_9 : decode cX8_isWitness 9 = .ok (.iconst 1, 1) := by decide +kernel
theorem dX8_isWitness_10 : decode cX8_isWitness 10 = .ok (.goto 4, 3) := by decide +kernel
theorem dX8_isWitness_13 : decode cX8_isWitness 13 = .ok (.iconst 0, 1) := by decide +kernel
theorem dX8_isWitness_14 : decode cX8_isWitness 14 = .ok (.ireturn, 1) := by decide +kernel
theorem dX8_placeOf_0 : decode cX8_placeOf 0 = .ok (.iconst 3, 1) := by decide +kernel
theorem dX8_placeOf_1 : decode cX8_placeOf 1 = .ok (.iconst 2, 1) := by decide +kernel
theorem dX8_placeOf_2 : decode cX8_placeOf 2 = .ok (.iload_n 0, 1) := by decide +kernel
theorem dX8_placeOf_3 : decode cX8_placeOf 3 = .ok (.imul, 1) := by decide +kernel
theorem dX8_placeOf_4 : decode cX8_placeOf 4 = .ok (.iload_n 1, 1) := by decide +kernel
theorem dX8_placeOf_5 : decode cX8_placeOf 5 = .ok (.iadd, 1) := by decide +kernel
theorem dX8_placeOf_6 : decode cX8_placeOf 6 = .ok (.imul, 1) := by decide +kernel
theorem dX8_placeOf_7 : decode cX8_placeOf 7 = .ok (.iload_n 2, 1) := by decide +kernel
theorem dX8_placeOf_8 : decode cX8_placeOf 8 = .ok (.iadd, 1) := by decide +kernel
theorem dX8_placeOf_9 : decode cX8_placeOf 9 = .ok (.ireturn, 1) := by decide +kernel
theorem dX8_seenLong_0 : decode cX8_seenLong 0 = .ok (.lconst 0, 1) := by decide +kernel
theorem dX8_seenLong_1 : decode cX8_seenLong 1 = .ok (.lstore_n 3, 1) := by decide +kernel
theorem dX8_seenLong_2 : decode cX8_seenLong 2 = .ok (.iconst 0, 1) := by decide +kernel
theorem dX8_seenLong_3 : decode cX8_seenLong 3 = .ok (.istore 5, 2) := by decide +kernel
theorem dX8_seenLong_5 : decode cX8_seenLong 5 = .ok (.iload 5, 2) := by decide +kernel
theorem dX8_seenLong_7 : decode cX8_seenLong 7 = .ok (.bipush 8, 2) := by decide +kernel
theorem dX8_seenLong_9 : decode cX8_seenLong 9 = .ok (.if_icmp .ge 30, 3) := by decide +kernel
theorem dX8_seenLong_12 : decode cX8_seenLong 12 = .ok (.lload_n 3, 1) := by decide +kernel
theorem dX8_seenLong_13 : decode cX8_seenLong 13 = .ok (.bipush 8, 2) := by decide +kernel
theorem dX8_seenLong_15 : decode cX8_seenLong 15 = .ok (.lshl, 1) := by decide +kernel
theorem dX8_seenLong_16 : decode cX8_seenLong 16 = .ok (.aload_n 0, 1) := by decide +kernel
theorem dX8_seenLong_17 : decode cX8_seenLong 17 = .ok (.getfield 45, 3) := by decide +kernel
theorem dX8_seenLong_20 : decode cX8_seenLong 20 = .ok (.bipush 80, 2) := by decide +kernel
theorem dX8_seenLong_22 : decode cX8_seenLong 22 = .ok (.iload_n 1, 1) := by decide +kernel
theorem dX8_seenLong_23 : decode cX8_seenLong 23 = .ok (.imul, 1) := by decide +kernel
theorem dX8_seenLong_24 : decode cX8_seenLong 24 = .ok (.iload_n 2, 1) := by decide +kernel
theorem dX8_seenLong_25 : decode cX8_seenLong 25 = .ok (.iadd, 1) := by decide +kernel
theorem dX8_seenLong_26 : decode cX8_seenLong 26 = .ok (.iload 5, 2) := by decide +kernel
theorem dX8_seenLong_28 : decode cX8_seenLong 28 = .ok (.iadd, 1) := by decide +kernel
theorem dX8_seenLong_29 : decode cX8_seenLong 29 = .ok (.iaload, 1) := by decide +kernel
theorem dX8_seenLong_30 : decode cX8_seenLong 30 = .ok (.i2l, 1) := by decide +kernel
theorem dX8_seenLong_31 : decode cX8_seenLong 31 = .ok (.lor, 1) := by decide +kernel
theorem dX8_seenLong_32 : decode cX8_seenLong 32 = .ok (.lstore_n 3, 1) := by decide +kernel
theorem dX8_seenLong_33 : decode cX8_seenLong 33 = .ok (.iinc 5 1, 3) := by decide +kernel
theorem dX8_seenLong_36 : decode cX8_seenLong 36 = .ok (.goto (-31), 3) := by decide +kernel
theorem dX8_seenLong_39 : decode cX8_seenLong 39 = .ok (.lload_n 3, 1) := by decide +kernel
theorem dX8_seenLong_40 : decode cX8_seenLong 40 = .ok (.lreturn, 1) := by decide +kernel
theorem dX8_seenSlot_0 : decode cX8_seenSlot 0 = .ok (.iconst 0, 1) := by decide +kernel
theorem dX8_seenSlot_1 : decode cX8_seenSlot 1 = .ok (.istore_n 3, 1) := by decide +kernel
theorem dX8_seenSlot_2 : decode cX8_seenSlot 2 = .ok (.iload_n 3, 1) := by decide +kernel
theorem dX8_seenSlot_3 : decode cX8_seenSlot 3 = .ok (.bipush 8, 2) := by decide +kernel
theorem dX8_seenSlot_5 : decode cX8_seenSlot 5 = .ok (.if_icmp .ge 79, 3) := by decide +kernel
theorem dX8_seenSlot_8 : decode cX8_seenSlot 8 = .ok (.bipush 80, 2) := by decide +kernel
theorem dX8_seenSlot_10 : decode cX8_seenSlot 10 = .ok (.iload_n 1, 1) := by decide +kernel
theorem dX8_seenSlot_11 : decode cX8_seenSlot 11 = .ok (.imul, 1) := by decide +kernel
theorem dX8_seenSlot_12 : decode cX8_seenSlot 12 = .ok (.bipush 16, 2) := by decide +kernel
theorem dX8_seenSlot_14 : decode cX8_seenSlot 14 = .ok (.iadd, 1) := by decide +kernel
theorem dX8_seenSlot_15 : decode cX8_seenSlot 15 = .ok (.iconst 4, 1) := by decide +kernel
theorem dX8_seenSlot_16 : decode cX8_seenSlot 16 = .ok (.iload_n 3, 1) := by decide +kernel
theorem dX8_seenSlot_17 : decode cX8_seenSlot 17 = .ok (.imul, 1) := by decide +kernel
theorem dX8_seenSlot_18 : decode cX8_seenSlot 18 = .ok (.iadd, 1) := by decide +kernel
theorem dX8_seenSlot_19 : decode cX8_seenSlot 19 = .ok (.istore 4, 2) := by decide +kernel
theorem dX8_seenSlot_21 : decode cX8_seenSlot 21 = .ok (.aload_n 0, 1) := by decide +kernel
theorem dX8_seenSlot_22 : decode cX8_seenSlot 22 = .ok (.getfield 128, 3) := by decide +kernel
theorem dX8_seenSlot_25 : decode cX8_seenSlot 25 = .ok (.bipush 8, 2) := by decide +kernel
theorem dX8_seenSlot_27 : decode cX8_seenSlot 27 = .ok (.iload_n 2, 1) := by decide +kernel
theorem dX8_seenSlot_28 : decode cX8_seenSlot 28 = .ok (.imul, 1) := by decide +kernel
theorem dX8_seenSlot_29 : decode cX8_seenSlot 29 = .ok (.iload_n 3, 1) := by decide +kernel
theorem dX8_seenSlot_30 : decode cX8_seenSlot 30 = .ok (.iadd, 1) := by decide +kernel
theorem dX8_seenSlot_31 : decode cX8_seenSlot 31 = .ok (.aload_n 0, 1) := by decide +kernel

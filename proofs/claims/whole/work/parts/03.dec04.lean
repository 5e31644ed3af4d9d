theorem dX8_block_472 : decode cX8_block 472 = .ok (.iastore, 1) := by decide +kernel
theorem dX8_block_473 : decode cX8_block 473 = .ok (.return_, 1) := by decide +kernel
theorem dX8_leafOf_0 : decode cX8_leafOf 0 = .ok (.aload_n 0, 1) := by decide +kernel
theorem dX8_leafOf_1 : decode cX8_leafOf 1 = .ok (.iconst 0, 1) := by decide +kernel
theorem dX8_leafOf_2 : decode cX8_leafOf 2 = .ok (.invokevirtual 151, 3) := by decide +kernel
theorem dX8_leafOf_5 : decode cX8_leafOf 5 = .ok (.sipush 200, 3) := by decide +kernel
theorem dX8_leafOf_8 : decode cX8_leafOf 8 = .ok (.iload_n 1, 1) := by decide +kernel
theorem dX8_leafOf_9 : decode cX8_leafOf 9 = .ok (.imul, 1) := by decide +kernel
theorem dX8_leafOf_10 : decode cX8_leafOf 10 = .ok (.iload_n 2, 1) := by decide +kernel
theorem dX8_leafOf_11 : decode cX8_leafOf 11 = .ok (.iadd, 1) := by decide +kernel
theorem dX8_leafOf_12 : decode cX8_leafOf 12 = .ok (.istore 4, 2) := by decide +kernel
theorem dX8_leafOf_14 : decode cX8_leafOf 14 = .ok (.iconst 0, 1) := by decide +kernel
theorem dX8_leafOf_15 : decode cX8_leafOf 15 = .ok (.istore 5, 2) := by decide +kernel
theorem dX8_leafOf_17 : decode cX8_leafOf 17 = .ok (.iload 5, 2) := by decide +kernel
theorem dX8_leafOf_19 : decode cX8_leafOf 19 = .ok (.aload_n 0, 1) := by decide +kernel
theorem dX8_leafOf_20 : decode cX8_leafOf 20 = .ok (.getfield 26, 3) := by decide +kernel
theorem dX8_leafOf_23 : decode cX8_leafOf 23 = .ok (.iload 4, 2) := by decide +kernel
theorem dX8_leafOf_25 : decode cX8_leafOf 25 = .ok (.iaload, 1) := by decide +kernel
theorem dX8_leafOf_26 : decode cX8_leafOf 26 = .ok (.if_icmp .ge 26, 3) := by decide +kernel
theorem dX8_leafOf_29 : decode cX8_leafOf 29 = .ok (.aload_n 0, 1) := by decide +kernel
theorem dX8_leafOf_30 : decode cX8_leafOf 30 = .ok (.aload_n 0, 1) := by decide +kernel
theorem dX8_leafOf_31 : decode cX8_leafOf 31 = .ok (.getfield 23, 3) := by decide +kernel
theorem dX8_leafOf_34 : decode cX8_leafOf 34 = .ok (.bipush 120, 2) := by decide +kernel
theorem dX8_leafOf_36 : decode cX8_leafOf 36 = .ok (.iload 4, 2) := by decide +kernel
theorem dX8_leafOf_38 : decode cX8_leafOf 38 = .ok (.imul, 1) := by decide +kernel
theorem dX8_leafOf_39 : decode cX8_leafOf 39 = .ok (.iload 5, 2) := by decide +kernel
theorem dX8_leafOf_41 : decode cX8_leafOf 41 = .ok (.iadd, 1) := by decide +kernel
theorem dX8_leafOf_42 : decode cX8_leafOf 42 = .ok (.iaload, 1) := by decide +kernel
theorem dX8_leafOf_43 : decode cX8_leafOf 43 = .ok (.invokevirtual 151, 3) := by decide +kernel
theorem dX8_leafOf_46 : decode cX8_leafOf 46 = .ok (.iinc 5 1, 3) := by decide +kernel
theorem dX8_leafOf_49 : decode cX8_leafOf 49 = .ok (.goto (-32), 3) := by decide +kernel
theorem dX8_leafOf_52 : decode cX8_leafOf 52 = .ok (.aload_n 0, 1) := by decide +kernel
theorem dX8_leafOf_53 : decode cX8_leafOf 53 = .ok (.iload_n 3, 1) := by decide +kernel
theorem dX8_leafOf_54 : decode cX8_leafOf 54 = .ok (.invokevirtual 173, 3) := by decide +kernel
theorem dX8_leafOf_57 : decode cX8_leafOf 57 = .ok (.return_, 1) := by decide +kernel
theorem dX8_node_0 : decode cX8_node 0 = .ok (.aload_n 0, 1) := by decide +kernel
theorem dX8_node_1 : decode cX8_node 1 = .ok (.iconst 1, 1) := by decide +kernel
theorem dX8_node_2 : decode cX8_node 2 = .ok (.invokevirtual 151, 3) := by decide +kernel
theorem dX8_node_5 : decode cX8_node 5 = .ok (.aload_n 0, 1) := by decide +kernel
theorem dX8_node_6 : decode cX8_node 6 = .ok (.iload_n 1, 1) := by decide +kernel
theorem dX8_node_7 : decode cX8_node 7 = .ok (.invokevirtual 176, 3) := by decide +kernel
theorem dX8_node_10 : decode cX8_node 10 = .ok (.aload_n 0, 1) := by decide +kernel
theorem dX8_node_11 : decode cX8_node 11 = .ok (.iload_n 2, 1) := by decide +kernel
theorem dX8_node_12 : decode cX8_node 12 = .ok (.invokevirtual 176, 3) := by decide +kernel
theorem dX8_node_15 : decode cX8_node 15 = .ok (.aload_n 0, 1) := by decide +kernel
theorem dX8_node_16 : decode cX8_node 16 = .ok (.iload_n 3, 1) := by decide +kernel
theorem dX8_node_17 : decode cX8_node 17 = .ok (.invokevirtual 173, 3) := by decide +kernel
theorem dX8_node_20 : decode cX8_node 20 = .ok (.return_, 1) := by decide +kernel
theorem dX8_isSame_0 : decode cX8_isSame 0 = .ok (.iconst 1, 1) := by decide +kernel
theorem dX8_isSame_1 : decode cX8_isSame 1 = .ok (.istore_n 3, 1) := by decide +kernel
theorem dX8_isSame_2 : decode cX8_isSame 2 = .ok (.iconst 0, 1) := by decide +kernel
theorem dX8_isSame_3 : decode cX8_isSame 3 = .ok (.istore 4, 2) := by decide +kernel
theorem dX8_isSame_5 : decode cX8_isSame 5 = .ok (.iload 4, 2) := by decide +kernel
theorem dX8_isSame_7 : decode cX8_isSame 7 = .ok (.bipush 8, 2) := by decide +kernel
theorem dX8_isSame_9 : decode cX8_isSame 9 = .ok (.if_icmp .ge 46, 3) := by decide +kernel
theorem dX8_isSame_12 : decode cX8_isSame 12 = .ok (.iload_n 3, 1) := by decide +kernel
theorem dX8_isSame_13 : decode cX8_isSame 13 = .ok (.ifCond .eq 34, 3) := by decide +kernel
theorem dX8_isSame_16 : decode cX8_isSame 16 = .ok (.aload_n 0, 1) := by decide +kernel
theorem dX8_isSame_17 : decode cX8_isSame 17 = .ok (.getfield 128, 3) := by decide +kernel
theorem dX8_isSame_20 : decode cX8_isSame 20 = .ok (.bipush 8, 2) := by decide +kernel
theorem dX8_isSame_22 : decode cX8_isSame 22 = .ok (.iload_n 1, 1) := by decide +kernel
theorem dX8_isSame_23 : decode cX8_isSame 23 = .ok (.imul, 1) := by decide +kernel
theorem dX8_isSame_24 : decode cX8_isSame 24 = .ok (.iload 4, 2) := by decide +kernel
theorem dX8_isSame_26 : decode cX8_isSame 26 = .ok (.iadd, 1) := by decide +kernel
theorem dX8_isSame_27 : decode cX8_isSame 27 = .ok (.iaload, 1) := by decide +kernel
theorem dX8_isSame_28 : decode cX8_isSame 28 = .ok (.aload_n 0, 1) := by decide +kernel
theorem dX8_isSame_29 : decode cX8_isSame 29 = .ok (.getfield 128, 3) := by decide +kernel
theorem dX8_isSame_32 : decode cX8_isSame 32 = .ok (.bipush 8, 2) := by decide +kernel
theorem dX8_isSame_34 : decode cX8_isSame 34 = .ok (.iload_n 2, 1) := by decide +kernel
theorem dX8_isSame_35 : decode cX8_isSame 35 = .ok (.imul, 1) := by decide +kernel
theorem dX8_isSame_36 : decode cX8_isSame 36 = .ok (.iload 4, 2) := by decide +kernel
theorem dX8_isSame_38 : decode cX8_isSame 38 = .ok (.iadd, 1) := by decide +kernel
theorem dX8_isSame_39 : decode cX8_isSame 39 = .ok (.iaload, 1) := by decide +kernel
theorem dX8_isSame_40 : decode cX8_isSame 40 = .ok (.if_icmp .ne 7, 3) := by decide +kernel
theorem dX8_isSame_43 : decode cX8_isSame 43 = .ok (.iconst 1, 1) := by decide +kernel
theorem dX8_isSame_44 : decode cX8_isSame 44 = .ok (.goto 4, 3) := by decide +kernel
theorem dX8_isSame_47 : decode cX8_isSame 47 = .ok (.iconst 0, 1) := by decide +kernel
theorem dX8_isSame_48 : decode cX8_isSame 48 = .ok (.istore_n 3, 1) := by decide +kernel
theorem dX8_isSame_49 : decode cX8_isSame 49 = .ok (.iinc 4 1, 3) := by decide +kernel
theorem dX8_isSame_52 : decode cX8_isSame 52 = .ok (.goto (-47), 3) := by decide +kernel
theorem dX8_isSame_55 : decode cX8_isSame 55 = .ok (.iload_n 3, 1) := by decide +kernel
theorem dX8_isSame_56 : decode cX8_isSame 56 = .ok (.ireturn, 1) := by decide +kernel
theorem dX8_copy_0 : decode cX8_copy 0 = .ok (.iconst 0, 1) := by decide +kernel
theorem dX8_copy_1 : decode cX8_copy 1 = .ok (.istore_n 3, 1) := by decide +kernel
theorem dX8_copy_2 : decode cX8_copy 2 = .ok (.iload_n 3, 1) := by decide +kernel
theorem dX8_copy_3 : decode cX8_copy 3 = .ok (.bipush 8, 2) := by decide +kernel
theorem dX8_copy_5 : decode cX8_copy 5 = .ok (.if_icmp .ge 31, 3) := by decide +kernel
theorem dX8_copy_8 : decode cX8_copy 8 = .ok (.aload_n 0, 1) := by decide +kernel
theorem dX8_copy_9 : decode cX8_copy 9 = .ok (.getfield 128, 3) := by decide +kernel
theorem dX8_copy_12 : decode cX8_copy 12 = .ok (.bipush 8, 2) := by decide +kernel
theorem dX8_copy_14 : decode cX8_copy 14 = .ok (.iload_n 2, 1) := by decide +kernel
theorem dX8_copy_15 : decode cX8_copy 15 = .ok (.imul, 1) := by decide +kernel
theorem dX8_copy_16 : decode cX8_copy 16 = .ok (.iload_n 3, 1) := by decide +kernel
theorem dX8_copy_17 : decode cX8_copy 17 = .ok (.iadd, 1) := by decide +kernel
theorem dX8_copy_18 : decode cX8_copy 18 = .ok (.aload_n 0, 1) := by decide +kernel
theorem dX8_copy_19 : decode cX8_copy 19 = .ok (.getfield 128, 3) := by decide +kernel
theorem dX8_copy_22 : decode cX8_copy 22 = .ok (.bipush 8, 2) := by decide +kernel
theorem dX8_copy_24 : decode cX8_copy 24 = .ok (.iload_n 1, 1) := by decide +kernel
theorem dX8_copy_25 : decode cX8_copy 25 = .ok (.imul, 1) := by decide +kernel
theorem dX8_copy_26 : decode cX8_copy 26 = .ok (.iload_n 3, 1) := by decide +kernel
theorem dX8_copy_27 : decode cX8_copy 27 = .ok (.iadd, 1) := by decide +kernel
theorem dX8_copy_28 : decode cX8_copy 28 = .ok (.iaload, 1) := by decide +kernel
theorem dX8_copy_29 : decode cX8_copy 29 = .ok (.iastore, 1) := by decide +kernel
theorem dX8_copy_30 : decode cX8_copy 30 = .ok (.iinc 3 1, 3) := by decide +kernel
theorem dX8_copy_33 : decode cX8_copy 33 = .ok (.goto (-31), 3) := by decide +kernel
theorem dX8_copy_36 : decode cX8_copy 36 = .ok (.return_, 1) := by decide +kernel
theorem dX8_root_0 : decode cX8_root 0 = .ok (.iload_n 3, 1) := by decide +kernel
theorem dX8_root_1 : decode cX8_root 1 = .ok (.ifCond .ne 10, 3) := by decide +kernel
theorem dX8_root_4 : decode cX8_root 4 = .ok (.aload_n 0, 1) := by decide +kernel
theorem dX8_root_5 : decode cX8_root 5 = .ok (.iload 4, 2) := by decide +kernel
theorem dX8_root_7 : decode cX8_root 7 = .ok (.invokevirtual 173, 3) := by decide +kernel
theorem dX8_root_10 : decode cX8_root 10 = .ok (.return_, 1) := by decide +kernel
theorem dX8_root_11 : decode cX8_root 11 = .ok (.iload_n 3, 1) := by decide +kernel
theorem dX8_root_12 : decode cX8_root 12 = .ok (.iconst 1, 1) := by decide +kernel
theorem dX8_root_13 : decode cX8_root 13 = .ok (.if_icmp .ne 12, 3) := by decide +kernel
theorem dX8_root_16 : decode cX8_root 16 = .ok (.aload_n 0, 1) := by decide +kernel
theorem dX8_root_17 : decode cX8_root 17 = .ok (.iload_n 1, 1) := by decide +kernel
theorem dX8_root_18 : decode cX8_root 18 = .ok (.iload_n 2, 1) := by decide +kernel
theorem dX8_root_19 : decode cX8_root 19 = .ok (.iload 4, 2) := by decide +kernel
theorem dX8_root_21 : decode cX8_root 21 = .ok (.invokevirtual 179, 3) := by decide +kernel
theorem dX8_root_24 : decode cX8_root 24 = .ok (.return_, 1) := by decide +kernel
theorem dX8_root_25 : decode cX8_root 25 = .ok (.iload_n 3, 1) := by decide +kernel
theorem dX8_root_26 : decode cX8_root 26 = .ok (.iconst 1, 1) := by decide +kernel
theorem dX8_root_27 : decode cX8_root 27 = .ok (.isub, 1) := by decide +kernel
theorem dX8_root_28 : decode cX8_root 28 = .ok (.invokestatic 183, 3) := by decide +kernel
theorem dX8_root_31 : decode cX8_root 31 = .ok (.istore 5, 2) := by decide +kernel
theorem dX8_root_33 : decode cX8_root 33 = .ok (.aload_n 0, 1) := by decide +kernel
theorem dX8_root_34 : decode cX8_root 34 = .ok (.iload_n 1, 1) := by decide +kernel
theorem dX8_root_35 : decode cX8_root 35 = .ok (.iload_n 2, 1) := by decide +kernel
theorem dX8_root_36 : decode cX8_root 36 = .ok (.iload 5, 2) := by decide +kernel
theorem dX8_root_38 : decode cX8_root 38 = .ok (.iload 4, 2) := by decide +kernel
theorem dX8_root_40 : decode cX8_root 40 = .ok (.invokestatic 189, 3) := by decide +kernel
theorem dX8_root_43 : decode cX8_root 43 = .ok (.aload_n 0, 1) := by decide +kernel
theorem dX8_root_44 : decode cX8_root 44 = .ok (.iload_n 1, 1) := by decide +kernel
theorem dX8_root_45 : decode cX8_root 45 = .ok (.iload_n 2, 1) := by decide +kernel
theorem dX8_root_46 : decode cX8_root 46 = .ok (.iload 5, 2) := by decide +kernel
theorem dX8_root_48 : decode cX8_root 48 = .ok (.iadd, 1) := by decide +kernel
theorem dX8_root_49 : decode cX8_root 49 = .ok (.iload_n 3, 1) := by decide +kernel
theorem dX8_root_50 : decode cX8_root 50 = .ok (.iload 5, 2) := by decide +kernel
theorem dX8_root_52 : decode cX8_root 52 = .ok (.isub, 1) := by decide +kernel
theorem dX8_root_53 : decode cX8_root 53 = .ok (.iload 4, 2) := by decide +kernel
theorem dX8_root_55 : decode cX8_root 55 = .ok (.iconst 1, 1) := by decide +kernel
theorem dX8_root_56 : decode cX8_root 56 = .ok (.iadd, 1) := by decide +kernel
theorem dX8_root_57 : decode cX8_root 57 = .ok (.invokestatic 189, 3) := by decide +kernel
theorem dX8_root_60 : decode cX8_root 60 = .ok (.aload_n 0, 1) := by decide +kernel
theorem dX8_root_61 : decode cX8_root 61 = .ok (.iload 4, 2) := by decide +kernel
theorem dX8_root_63 : decode cX8_root 63 = .ok (.iload 4, 2) := by decide +kernel
theorem dX8_root_65 : decode cX8_root 65 = .ok (.iconst 1, 1) := by decide +kernel
theorem dX8_root_66 : decode cX8_root 66 = .ok (.iadd, 1) := by decide +kernel
theorem dX8_root_67 : decode cX8_root 67 = .ok (.iload 4, 2) := by decide +kernel
theorem dX8_root_69 : decode cX8_root 69 = .ok (.invokevirtual 193, 3) := by decide +kernel
theorem dX8_root_72 : decode cX8_root 72 = .ok (.return_, 1) := by decide +kernel
theorem dX8_fromTape_0 : decode cX8_fromTape 0 = .ok (.iconst 0, 1) := by decide +kernel
theorem dX8_fromTape_1 : decode cX8_fromTape 1 = .ok (.istore_n 3, 1) := by decide +kernel
theorem dX8_fromTape_2 : decode cX8_fromTape 2 = .ok (.iload_n 3, 1) := by decide +kernel
theorem dX8_fromTape_3 : decode cX8_fromTape 3 = .ok (.bipush 8, 2) := by decide +kernel
theorem dX8_fromTape_5 : decode cX8_fromTape 5 = .ok (.if_icmp .ge 78, 3) := by decide +kernel
theorem dX8_fromTape_8 : decode cX8_fromTape 8 = .ok (.aload_n 0, 1) := by decide +kernel
theorem dX8_fromTape_9 : decode cX8_fromTape 9 = .ok (.getfield 128, 3) := by decide +kernel
theorem dX8_fromTape_12 : decode cX8_fromTape 12 = .ok (.bipush 8, 2) := by decide +kernel
theorem dX8_fromTape_14 : decode cX8_fromTape 14 = .ok (.iload_n 2, 1) := by decide +kernel
theorem dX8_fromTape_15 : decode cX8_fromTape 15 = .ok (.imul, 1) := by decide +kernel
theorem dX8_fromTape_16 : decode cX8_fromTape 16 = .ok (.iload_n 3, 1) := by decide +kernel
theorem dX8_fromTape_17 : decode cX8_fromTape 17 = .ok (.iadd, 1) := by decide +kernel
theorem dX8_fromTape_18 : decode cX8_fromTape 18 = .ok (.aload_n 0, 1) := by decide +kernel
theorem dX8_fromTape_19 : decode cX8_fromTape 19 = .ok (.getfield 7, 3) := by decide +kernel
theorem dX8_fromTape_22 : decode cX8_fromTape 22 = .ok (.iload_n 1, 1) := by decide +kernel
theorem dX8_fromTape_23 : decode cX8_fromTape 23 = .ok (.iconst 4, 1) := by decide +kernel
theorem dX8_fromTape_24 : decode cX8_fromTape 24 = .ok (.iload_n 3, 1) := by decide +kernel
theorem dX8_fromTape_25 : decode cX8_fromTape 25 = .ok (.imul, 1) := by decide +kernel
theorem dX8_fromTape_26 : decode cX8_fromTape 26 = .ok (.iadd, 1) := by decide +kernel
theorem dX8_fromTape_27 : decode cX8_fromTape 27 = .ok (.iaload, 1) := by decide +kernel
theorem dX8_fromTape_28 : decode cX8_fromTape 28 = .ok (.bipush 24, 2) := by decide +kernel
theorem dX8_fromTape_30 : decode cX8_fromTape 30 = .ok (.ishl, 1) := by decide +kernel
theorem dX8_fromTape_31 : decode cX8_fromTape 31 = .ok (.aload_n 0, 1) := by decide +kernel
theorem dX8_fromTape_32 : decode cX8_fromTape 32 = .ok (.getfield 7, 3) := by decide +kernel
theorem dX8_fromTape_35 : decode cX8_fromTape 35 = .ok (.iload_n 1, 1) := by decide +kernel
theorem dX8_fromTape_36 : decode cX8_fromTape 36 = .ok (.iconst 4, 1) := by decide +kernel
theorem dX8_fromTape_37 : decode cX8_fromTape 37 = .ok (.iload_n 3, 1) := by decide +kernel
theorem dX8_fromTape_38 : decode cX8_fromTape 38 = .ok (.imul, 1) := by decide +kernel
theorem dX8_fromTape_39 : decode cX8_fromTape 39 = .ok (.iadd, 1) := by decide +kernel
theorem dX8_fromTape_40 : decode cX8_fromTape 40 = .ok (.iconst 1, 1) := by decide +kernel
theorem dX8_fromTape_41 : decode cX8_fromTape 41 = .ok (.iadd, 1) := by decide +kernel
theorem dX8_fromTape_42 : decode cX8_fromTape 42 = .ok (.iaload, 1) := by decide +kernel
theorem dX8_fromTape_43 : decode cX8_fromTape 43 = .ok (.bipush 16, 2) := by decide +kernel
theorem dX8_fromTape_45 : decode cX8_fromTape 45 = .ok (.ishl, 1) := by decide +kernel
theorem dX8_fromTape_46 : decode cX8_fromTape 46 = .ok (.ior, 1) := by decide +kernel
theorem dX8_fromTape_47 : decode cX8_fromTape 47 = .ok (.aload_n 0, 1) := by decide +kernel
theorem dX8_fromTape_48 : decode cX8_fromTape 48 = .ok (.getfield 7, 3) := by decide +kernel
theorem dX8_fromTape_51 : decode cX8_fromTape 51 = .ok (.iload_n 1, 1) := by decide +kernel
theorem dX8_fromTape_52 : decode cX8_fromTape 52 = .ok (.iconst 4, 1) := by decide +kernel
theorem dX8_fromTape_53 : decode cX8_fromTape 53 = .ok (.iload_n 3, 1) := by decide +kernel
theorem dX8_fromTape_54 : decode cX8_fromTape 54 = .ok (.imul, 1) := by decide +kernel
theorem dX8_fromTape_55 : decode cX8_fromTape 55 = .ok (.iadd, 1) := by decide +kernel
theorem dX8_fromTape_56 : decode cX8_fromTape 56 = .ok (.iconst 2, 1) := by decide +kernel
theorem dX8_fromTape_57 : decode cX8_fromTape 57 = .ok (.iadd, 1) := by decide +kernel
theorem dX8_fromTape_58 : decode cX8_fromTape 58 = .ok (.iaload, 1) := by decide +kernel
theorem dX8_fromTape_59 : decode cX8_fromTape 59 = .ok (.bipush 8, 2) := by decide +kernel
theorem dX8_fromTape_61 : decode cX8_fromTape 61 = .ok (.ishl, 1) := by decide +kernel
theorem dX8_fromTape_62 : decode cX8_fromTape 62 = .ok (.ior, 1) := by decide +kernel
theorem dX8_fromTape_63 : decode cX8_fromTape 63 = .ok (.aload_n 0, 1) := by decide +kernel
theorem dX8_fromTape_64 : decode cX8_fromTape 64 = .ok (.getfield 7, 3) := by decide +kernel
theorem dX8_fromTape_67 : decode cX8_fromTape 67 = .ok (.iload_n 1, 1) := by decide +kernel
theorem dX8_fromTape_68 : decode cX8_fromTape 68 = .ok (.iconst 4, 1) := by decide +kernel
theorem dX8_fromTape_69 : decode cX8_fromTape 69 = .ok (.iload_n 3, 1) := by decide +kernel
theorem dX8_fromTape_70 : decode cX8_fromTape 70 = .ok (.imul, 1) := by decide +kernel
theorem dX8_fromTape_71 : decode cX8_fromTape 71 = .ok (.iadd, 1) := by decide +kernel
theorem dX8_fromTape_72 : decode cX8_fromTape 72 = .ok (.iconst 3, 1) := by decide +kernel
theorem dX8_fromTape_73 : decode cX8_fromTape 73 = .ok (.iadd, 1) := by decide +kernel
theorem dX8_fromTape_74 : decode cX8_fromTape 74 = .ok (.iaload, 1) := by decide +kernel
theorem dX8_fromTape_75 : decode cX8_fromTape 75 = .ok (.ior, 1) := by decide +kernel
theorem dX8_fromTape_76 : decode cX8_fromTape 76 = .ok (.iastore, 1) := by decide +kernel
theorem dX8_fromTape_77 : decode cX8_fromTape 77 = .ok (.iinc 3 1, 3) := by decide +kernel
theorem dX8_fromTape_80 : decode cX8_fromTape 80 = .ok (.goto (-78), 3) := by decide +kernel
theorem dX8_fromTape_83 : decode cX8_fromTape 83 = .ok (.return_, 1) := by decide +kernel
theorem dX8_outSlot_0 : decode cX8_outSlot 0 = .ok (.iconst 0, 1) := by decide +kernel
theorem dX8_outSlot_1 : decode cX8_outSlot 1 = .ok (.istore_n 2, 1) := by decide +kernel
theorem dX8_outSlot_2 : decode cX8_outSlot 2 = .ok (.iload_n 2, 1) := by decide +kernel
theorem dX8_outSlot_3 : decode cX8_outSlot 3 = .ok (.bipush 32, 2) := by decide +kernel
theorem dX8_outSlot_5 : decode cX8_outSlot 5 = .ok (.if_icmp .ge 47, 3) := by decide +kernel
theorem dX8_outSlot_8 : decode cX8_outSlot 8 = .ok (.aload_n 0, 1) := by decide +kernel
theorem dX8_outSlot_9 : decode cX8_outSlot 9 = .ok (.getfield 13, 3) := by decide +kernel
theorem dX8_outSlot_12 : decode cX8_outSlot 12 = .ok (.aload_n 0, 1) := by decide +kernel
theorem dX8_outSlot_13 : decode cX8_outSlot 13 = .ok (.getfield 145, 3) := by decide +kernel
theorem dX8_outSlot_16 : decode cX8_outSlot 16 = .ok (.iload_n 2, 1) := by decide +kernel
theorem dX8_outSlot_17 : decode cX8_outSlot 17 = .ok (.iadd, 1) := by decide +kernel
theorem dX8_outSlot_18 : decode cX8_outSlot 18 = .ok (.aload_n 0, 1) := by decide +kernel
theorem dX8_outSlot_19 : decode cX8_outSlot 19 = .ok (.getfield 128, 3) := by decide +kernel
theorem dX8_outSlot_22 : decode cX8_outSlot 22 = .ok (.bipush 8, 2) := by decide +kernel
theorem dX8_outSlot_24 : decode cX8_outSlot 24 = .ok (.iload_n 1, 1) := by decide +kernel
theorem dX8_outSlot_25 : decode cX8_outSlot 25 = .ok (.imul, 1) := by decide +kernel
theorem dX8_outSlot_26 : decode cX8_outSlot 26 = .ok (.iload_n 2, 1) := by decide +kernel
theorem dX8_outSlot_27 : decode cX8_outSlot 27 = .ok (.iconst 4, 1) := by decide +kernel
theorem dX8_outSlot_28 : decode cX8_outSlot 28 = .ok (.idiv, 1) := by decide +kernel
theorem dX8_outSlot_29 : decode cX8_outSlot 29 = .ok (.iadd, 1) := by decide +kernel
theorem dX8_outSlot_30 : decode cX8_outSlot 30 = .ok (.iaload, 1) := by decide +kernel
theorem dX8_outSlot_31 : decode cX8_outSlot 31 = .ok (.bipush 24, 2) := by decide +kernel
theorem dX8_outSlot_33 : decode cX8_outSlot 33 = .ok (.bipush 8, 2) := by decide +kernel
theorem dX8_outSlot_35 : decode cX8_outSlot 35 = .ok (.iload_n 2, 1) := by decide +kernel
theorem dX8_outSlot_36 : decode cX8_outSlot 36 = .ok (.iconst 4, 1) := by decide +kernel
theorem dX8_outSlot_37 : decode cX8_outSlot 37 = .ok (.irem, 1) := by decide +kernel
theorem dX8_outSlot_38 : decode cX8_outSlot 38 = .ok (.imul, 1) := by decide +kernel
theorem dX8_outSlot_39 : decode cX8_outSlot 39 = .ok (.isub, 1) := by decide +kernel
theorem dX8_outSlot_40 : decode cX8_outSlot 40 = .ok (.ishr, 1) := by decide +kernel
theorem dX8_outSlot_41 : decode cX8_outSlot 41 = .ok (.sipush 255, 3) := by decide +kernel
theorem dX8_outSlot_44 : decode cX8_outSlot 44 = .ok (.iand, 1) := by decide +kernel
theorem dX8_outSlot_45 : decode cX8_outSlot 45 = .ok (.iastore, 1) := by decide +kernel
theorem dX8_outSlot_46 : decode cX8_outSlot 46 = .ok (.iinc 2 1, 3) := by decide +kernel
theorem dX8_outSlot_49 : decode cX8_outSlot 49 = .ok (.goto (-47), 3) := by decide +kernel
theorem dX8_outSlot_52 : decode cX8_outSlot 52 = .ok (.aload_n 0, 1) := by decide +kernel
theorem dX8_outSlot_53 : decode cX8_outSlot 53 = .ok (.dup, 1) := by decide +kernel
theorem dX8_outSlot_54 : decode cX8_outSlot 54 = .ok (.getfield 145, 3) := by decide +kernel
theorem dX8_outSlot_57 : decode cX8_outSlot 57 = .ok (.bipush 32, 2) := by decide +kernel
theorem dX8_outSlot_59 : decode cX8_outSlot 59 = .ok (.iadd, 1) := by decide +kernel
theorem dX8_outSlot_60 : decode cX8_outSlot 60 = .ok (.putfield 145, 3) := by decide +kernel
theorem dX8_outSlot_63 : decode cX8_outSlot 63 = .ok (.return_, 1) := by decide +kernel
theorem dX8_sealOf_0 : decode cX8_sealOf 0 = .ok (.aload_n 0, 1) := by decide +kernel
theorem dX8_sealOf_1 : decode cX8_sealOf 1 = .ok (.getfield 19, 3) := by decide +kernel
theorem dX8_sealOf_4 : decode cX8_sealOf 4 = .ok (.iload_n 1, 1) := by decide +kernel
theorem dX8_sealOf_5 : decode cX8_sealOf 5 = .ok (.iaload, 1) := by decide +kernel
theorem dX8_sealOf_6 : decode cX8_sealOf 6 = .ok (.istore 6, 2) := by decide +kernel
theorem dX8_sealOf_8 : decode cX8_sealOf 8 = .ok (.iload 6, 2) := by decide +kernel
theorem dX8_sealOf_10 : decode cX8_sealOf 10 = .ok (.bipush 64, 2) := by decide +kernel
theorem dX8_sealOf_12 : decode cX8_sealOf 12 = .ok (.if_icmp .le 40, 3) := by decide +kernel
theorem dX8_sealOf_15 : decode cX8_sealOf 15 = .ok (.iconst 0, 1) := by decide +kernel
theorem dX8_sealOf_16 : decode cX8_sealOf 16 = .ok (.istore 7, 2) := by decide +kernel
theorem dX8_sealOf_18 : decode cX8_sealOf 18 = .ok (.iload 7, 2) := by decide +kernel
theorem dX8_sealOf_20 : decode cX8_sealOf 20 = .ok (.iload 6, 2) := by decide +kernel
theorem dX8_sealOf_22 : decode cX8_sealOf 22 = .ok (.if_icmp .ge 25, 3) := by decide +kernel
theorem dX8_sealOf_25 : decode cX8_sealOf 25 = .ok (.aload_n 0, 1) := by decide +kernel
theorem dX8_sealOf_26 : decode cX8_sealOf 26 = .ok (.aload_n 0, 1) := by decide +kernel
theorem dX8_sealOf_27 : decode cX8_sealOf 27 = .ok (.getfield 16, 3) := by decide +kernel
theorem dX8_sealOf_30 : decode cX8_sealOf 30 = .ok (.bipush 100, 2) := by decide +kernel
theorem dX8_sealOf_32 : decode cX8_sealOf 32 = .ok (.iload_n 1, 1) := by decide +kernel
theorem dX8_sealOf_33 : decode cX8_sealOf 33 = .ok (.imul, 1) := by decide +kernel
theorem dX8_sealOf_34 : decode cX8_sealOf 34 = .ok (.iload 7, 2) := by decide +kernel
theorem dX8_sealOf_36 : decode cX8_sealOf 36 = .ok (.iadd, 1) := by decide +kernel
theorem dX8_sealOf_37 : decode cX8_sealOf 37 = .ok (.iaload, 1) := by decide +kernel
theorem dX8_sealOf_38 : decode cX8_sealOf 38 = .ok (.invokevirtual 151, 3) := by decide +kernel
theorem dX8_sealOf_41 : decode cX8_sealOf 41 = .ok (.iinc 7 1, 3) := by decide +kernel
theorem dX8_sealOf_44 : decode cX8_sealOf 44 = .ok (.goto (-26), 3) := by decide +kernel
theorem dX8_sealOf_47 : decode cX8_sealOf 47 = .ok (.aload_n 0, 1) := by decide +kernel
theorem dX8_sealOf_48 : decode cX8_sealOf 48 = .ok (.iconst 2, 1) := by decide +kernel
theorem dX8_sealOf_49 : decode cX8_sealOf 49 = .ok (.invokevirtual 173, 3) := by decide +kernel
theorem dX8_sealOf_52 : decode cX8_sealOf 52 = .ok (.aload_n 0, 1) := by decide +kernel
theorem dX8_sealOf_53 : decode cX8_sealOf 53 = .ok (.iload_n 1, 1) := by decide +kernel
theorem dX8_sealOf_54 : decode cX8_sealOf 54 = .ok (.bipush 54, 2) := by decide +kernel
theorem dX8_sealOf_56 : decode cX8_sealOf 56 = .ok (.invokevirtual 196, 3) := by decide +kernel
theorem dX8_sealOf_59 : decode cX8_sealOf 59 = .ok (.aload_n 0, 1) := by decide +kernel
theorem dX8_sealOf_60 : decode cX8_sealOf 60 = .ok (.iconst 0, 1) := by decide +kernel
theorem dX8_sealOf_61 : decode cX8_sealOf 61 = .ok (.invokevirtual 151, 3) := by decide +kernel
theorem dX8_sealOf_64 : decode cX8_sealOf 64 = .ok (.aload_n 0, 1) := by decide +kernel
theorem dX8_sealOf_65 : decode cX8_sealOf 65 = .ok (.iconst 1, 1) := by decide +kernel
theorem dX8_sealOf_66 : decode cX8_sealOf 66 = .ok (.invokevirtual 151, 3) := by decide +kernel
theorem dX8_sealOf_69 : decode cX8_sealOf 69 = .ok (.aload_n 0, 1) := by decide +kernel
theorem dX8_sealOf_70 : decode cX8_sealOf 70 = .ok (.lload_n 2, 1) := by decide +kernel
theorem dX8_sealOf_71 : decode cX8_sealOf 71 = .ok (.invokevirtual 154, 3) := by decide +kernel
theorem dX8_sealOf_74 : decode cX8_sealOf 74 = .ok (.aload_n 0, 1) := by decide +kernel
theorem dX8_sealOf_75 : decode cX8_sealOf 75 = .ok (.lload 4, 2) := by decide +kernel
theorem dX8_sealOf_77 : decode cX8_sealOf 77 = .ok (.invokevirtual 154, 3) := by decide +kernel
theorem dX8_sealOf_80 : decode cX8_sealOf 80 = .ok (.aload_n 0, 1) := by decide +kernel
theorem dX8_sealOf_81 : decode cX8_sealOf 81 = .ok (.iconst 0, 1) := by decide +kernel
theorem dX8_sealOf_82 : decode cX8_sealOf 82 = .ok (.invokevirtual 176, 3) := by decide +kernel
theorem dX8_sealOf_85 : decode cX8_sealOf 85 = .ok (.aload_n 0, 1) := by decide +kernel
theorem dX8_sealOf_86 : decode cX8_sealOf 86 = .ok (.iconst 3, 1) := by decide +kernel
theorem dX8_sealOf_87 : decode cX8_sealOf 87 = .ok (.invokevirtual 173, 3) := by decide +kernel
theorem dX8_sealOf_90 : decode cX8_sealOf 90 = .ok (.aload_n 0, 1) := by decide +kernel
theorem dX8_sealOf_91 : decode cX8_sealOf 91 = .ok (.iload_n 1, 1) := by decide +kernel
theorem dX8_sealOf_92 : decode cX8_sealOf 92 = .ok (.bipush 92, 2) := by decide +kernel
theorem dX8_sealOf_94 : decode cX8_sealOf 94 = .ok (.invokevirtual 196, 3) := by decide +kernel
theorem dX8_sealOf_97 : decode cX8_sealOf 97 = .ok (.aload_n 0, 1) := by decide +kernel
theorem dX8_sealOf_98 : decode cX8_sealOf 98 = .ok (.iconst 3, 1) := by decide +kernel
theorem dX8_sealOf_99 : decode cX8_sealOf 99 = .ok (.invokevirtual 176, 3) := by decide +kernel
theorem dX8_sealOf_102 : decode cX8_sealOf 102 = .ok (.aload_n 0, 1) := by decide +kernel
theorem dX8_sealOf_103 : decode cX8_sealOf 103 = .ok (.iconst 1, 1) := by decide +kernel
theorem dX8_sealOf_104 : decode cX8_sealOf 104 = .ok (.invokevirtual 173, 3) := by decide +kernel
theorem dX8_sealOf_107 : decode cX8_sealOf 107 = .ok (.return_, 1) := by decide +kernel
theorem dX8_pad_0 : decode cX8_pad 0 = .ok (.aload_n 0, 1) := by decide +kernel
theorem dX8_pad_1 : decode cX8_pad 1 = .ok (.getfield 19, 3) := by decide +kernel
theorem dX8_pad_4 : decode cX8_pad 4 = .ok (.iload_n 1, 1) := by decide +kernel
theorem dX8_pad_5 : decode cX8_pad 5 = .ok (.iaload, 1) := by decide +kernel
theorem dX8_pad_6 : decode cX8_pad 6 = .ok (.istore_n 3, 1) := by decide +kernel
theorem dX8_pad_7 : decode cX8_pad 7 = .ok (.iconst 0, 1) := by decide +kernel
theorem dX8_pad_8 : decode cX8_pad 8 = .ok (.istore 4, 2) := by decide +kernel
theorem dX8_pad_10 : decode cX8_pad 10 = .ok (.iload 4, 2) := by decide +kernel
theorem dX8_pad_12 : decode cX8_pad 12 = .ok (.bipush 64, 2) := by decide +kernel
theorem dX8_pad_14 : decode cX8_pad 14 = .ok (.if_icmp .ge 88, 3) := by decide +kernel
theorem dX8_pad_17 : decode cX8_pad 17 = .ok (.iload_n 3, 1) := by decide +kernel
theorem dX8_pad_18 : decode cX8_pad 18 = .ok (.bipush 64, 2) := by decide +kernel
theorem dX8_pad_20 : decode cX8_pad 20 = .ok (.if_icmp .le 44, 3) := by decide +kernel
theorem dX8_pad_23 : decode cX8_pad 23 = .ok (.iload 4, 2) := by decide +kernel
theorem dX8_pad_25 : decode cX8_pad 25 = .ok (.bipush 32, 2) := by decide +kernel
theorem dX8_pad_27 : decode cX8_pad 27 = .ok (.if_icmp .ge 33, 3) := by decide +kernel
theorem dX8_pad_30 : decode cX8_pad 30 = .ok (.aload_n 0, 1) := by decide +kernel
theorem dX8_pad_31 : decode cX8_pad 31 = .ok (.getfield 128, 3) := by decide +kernel
theorem dX8_pad_34 : decode cX8_pad 34 = .ok (.bipush 16, 2) := by decide +kernel
theorem dX8_pad_36 : decode cX8_pad 36 = .ok (.iload 4, 2) := by decide +kernel
theorem dX8_pad_38 : decode cX8_pad 38 = .ok (.iconst 4, 1) := by decide +kernel
theorem dX8_pad_39 : decode cX8_pad 39 = .ok (.idiv, 1) := by decide +kernel
theorem dX8_pad_40 : decode cX8_pad 40 = .ok (.iadd, 1) := by decide +kernel
theorem dX8_pad_41 : decode cX8_pad 41 = .ok (.iaload, 1) := by decide +kernel
theorem dX8_pad_42 : decode cX8_pad 42 = .ok (.bipush 24, 2) := by decide +kernel
theorem dX8_pad_44 : decode cX8_pad 44 = .ok (.bipush 8, 2) := by decide +kernel
theorem dX8_pad_46 : decode cX8_pad 46 = .ok (.iload 4, 2) := by decide +kernel
theorem dX8_pad_48 : decode cX8_pad 48 = .ok (.iconst 4, 1) := by decide +kernel
theorem dX8_pad_49 : decode cX8_pad 49 = .ok (.irem, 1) := by decide +kernel
theorem dX8_pad_50 : decode cX8_pad 50 = .ok (.imul, 1) := by decide +kernel
theorem dX8_pad_51 : decode cX8_pad 51 = .ok (.isub, 1) := by decide +kernel
theorem dX8_pad_52 : decode cX8_pad 52 = .ok (.ishr, 1) := by decide +kernel
theorem dX8_pad_53 : decode cX8_pad 53 = .ok (.sipush 255, 3) := by decide +kernel
theorem dX8_pad_56 : decode cX8_pad 56 = .ok (.iand, 1) := by decide +kernel
theorem dX8_pad_57 : decode cX8_pad 57 = .ok (.goto 29, 3) := by decide +kernel
theorem dX8_pad_60 : decode cX8_pad 60 = .ok (.iconst 0, 1) := by decide +kernel
theorem dX8_pad_61 : decode cX8_pad 61 = .ok (.goto 25, 3) := by decide +kernel
theorem dX8_pad_64 : decode cX8_pad 64 = .ok (.iload 4, 2) := by decide +kernel
theorem dX8_pad_66 : decode cX8_pad 66 = .ok (.iload_n 3, 1) := by decide +kernel
theorem dX8_pad_67 : decode cX8_pad 67 = .ok (.if_icmp .ge 18, 3) := by decide +kernel
theorem dX8_pad_70 : decode cX8_pad 70 = .ok (.aload_n 0, 1) := by decide +kernel
theorem dX8_pad_71 : decode cX8_pad 71 = .ok (.getfield 16, 3) := by decide +kernel
theorem dX8_pad_74 : decode cX8_pad 74 = .ok (.bipush 100, 2) := by decide +kernel
theorem dX8_pad_76 : decode cX8_pad 76 = .ok (.iload_n 1, 1) := by decide +kernel
theorem dX8_pad_77 : decode cX8_pad 77 = .ok (.imul, 1) := by decide +kernel
theorem dX8_pad_78 : decode cX8_pad 78 = .ok (.iload 4, 2) := by decide +kernel
theorem dX8_pad_80 : decode cX8_pad 80 = .ok (.iadd, 1) := by decide +kernel
theorem dX8_pad_81 : decode cX8_pad 81 = .ok (.iaload, 1) := by decide +kernel
theorem dX8_pad_82 : decode cX8_pad 82 = .ok (.goto 4, 3) := by decide +kernel
theorem dX8_pad_85 : decode cX8_pad 85 = .ok (.iconst 0, 1) := by decide +kernel
theorem dX8_pad_86 : decode cX8_pad 86 = .ok (.istore 5, 2) := by decide +kernel
theorem dX8_pad_88 : decode cX8_pad 88 = .ok (.aload_n 0, 1) := by decide +kernel
theorem dX8_pad_89 : decode cX8_pad 89 = .ok (.iload 5, 2) := by decide +kernel
theorem dX8_pad_91 : decode cX8_pad 91 = .ok (.iload_n 2, 1) := by decide +kernel
theorem dX8_pad_92 : decode cX8_pad 92 = .ok (.ixor, 1) := by decide +kernel
theorem dX8_pad_93 : decode cX8_pad 93 = .ok (.invokevirtual 151, 3) := by decide +kernel
theorem dX8_pad_96 : decode cX8_pad 96 = .ok (.iinc 4 1, 3) := by decide +kernel
theorem dX8_pad_99 : decode cX8_pad 99 = .ok (.goto (-89), 3) := by decide +kernel
theorem dX8_pad_102 : decode cX8_pad 102 = .ok (.return_, 1) := by decide +kernel
theorem dX8_key_0 : decode cX8_key 0 = .ok (.aload_n 0, 1) := by decide +kernel
theorem dX8_key_1 : decode cX8_key 1 = .ok (.invokevirtual 200, 3) := by decide +kernel
theorem dX8_key_4 : decode cX8_key 4 = .ok (.istore_n 2, 1) := by decide +kernel
theorem dX8_key_5 : decode cX8_key 5 = .ok (.aload_n 0, 1) := by decide +kernel
theorem dX8_key_6 : decode cX8_key 6 = .ok (.iload_n 1, 1) := by decide +kernel
theorem dX8_key_7 : decode cX8_key 7 = .ok (.invokestatic 204, 3) := by decide +kernel
theorem dX8_key_10 : decode cX8_key 10 = .ok (.ifCond .ne 7, 3) := by decide +kernel
theorem dX8_key_13 : decode cX8_key 13 = .ok (.iconst 1, 1) := by decide +kernel
theorem dX8_key_14 : decode cX8_key 14 = .ok (.goto 27, 3) := by decide +kernel
theorem dX8_key_17 : decode cX8_key 17 = .ok (.iload_n 2, 1) := by decide +kernel
theorem dX8_key_18 : decode cX8_key 18 = .ok (.bipush 100, 2) := by decide +kernel
theorem dX8_key_20 : decode cX8_key 20 = .ok (.if_icmp .le 7, 3) := by decide +kernel
theorem dX8_key_23 : decode cX8_key 23 = .ok (.iconst 2, 1) := by decide +kernel
theorem dX8_key_24 : decode cX8_key 24 = .ok (.goto 17, 3) := by decide +kernel
theorem dX8_key_27 : decode cX8_key 27 = .ok (.aload_n 0, 1) := by decide +kernel
theorem dX8_key_28 : decode cX8_key 28 = .ok (.getfield 42, 3) := by decide +kernel
theorem dX8_key_31 : decode cX8_key 31 = .ok (.iload_n 1, 1) := by decide +kernel
theorem dX8_key_32 : decode cX8_key 32 = .ok (.iaload, 1) := by decide +kernel
theorem dX8_key_33 : decode cX8_key 33 = .ok (.ifCond .le 7, 3) := by decide +kernel
theorem dX8_key_36 : decode cX8_key 36 = .ok (.iconst 3, 1) := by decide +kernel
theorem dX8_key_37 : decode cX8_key 37 = .ok (.goto 4, 3) := by decide +kernel
theorem dX8_key_40 : decode cX8_key 40 = .ok (.iconst 0, 1) := by decide +kernel
theorem dX8_key_41 : decode cX8_key 41 = .ok (.putfield 134, 3) := by decide +kernel
theorem dX8_key_44 : decode cX8_key 44 = .ok (.aload_n 0, 1) := by decide +kernel
theorem dX8_key_45 : decode cX8_key 45 = .ok (.getfield 134, 3) := by decide +kernel
theorem dX8_key_48 : decode cX8_key 48 = .ok (.ifCond .le 5, 3) := by decide +kernel
theorem dX8_key_51 : decode cX8_key 51 = .ok (.iconst 0, 1) := by decide +kernel
theorem dX8_key_52 : decode cX8_key 52 = .ok (.ireturn, 1) := by decide +kernel
theorem dX8_key_53 : decode cX8_key 53 = .ok (.iconst 0, 1) := by decide +kernel
theorem dX8_key_54 : decode cX8_key 54 = .ok (.istore_n 3, 1) := by decide +kernel
theorem dX8_key_55 : decode cX8_key 55 = .ok (.iload_n 3, 1) := by decide +kernel
theorem dX8_key_56 : decode cX8_key 56 = .ok (.iload_n 2, 1) := by decide +kernel
theorem dX8_key_57 : decode cX8_key 57 = .ok (.if_icmp .ge 26, 3) := by decide +kernel
theorem dX8_key_60 : decode cX8_key 60 = .ok (.aload_n 0, 1) := by decide +kernel
theorem dX8_key_61 : decode cX8_key 61 = .ok (.getfield 16, 3) := by decide +kernel
theorem dX8_key_64 : decode cX8_key 64 = .ok (.bipush 100, 2) := by decide +kernel
theorem dX8_key_66 : decode cX8_key 66 = .ok (.iload_n 1, 1) := by decide +kernel
theorem dX8_key_67 : decode cX8_key 67 = .ok (.imul, 1) := by decide +kernel
theorem dX8_key_68 : decode cX8_key 68 = .ok (.iload_n 3, 1) := by decide +kernel
theorem dX8_key_69 : decode cX8_key 69 = .ok (.iadd, 1) := by decide +kernel
theorem dX8_key_70 : decode cX8_key 70 = .ok (.aload_n 0, 1) := by decide +kernel
theorem dX8_key_71 : decode cX8_key 71 = .ok (.getfield 7, 3) := by decide +kernel
theorem dX8_key_74 : decode cX8_key 74 = .ok (.iload_n 3, 1) := by decide +kernel
theorem dX8_key_75 : decode cX8_key 75 = .ok (.iaload, 1) := by decide +kernel
theorem dX8_key_76 : decode cX8_key 76 = .ok (.iastore, 1) := by decide +kernel
theorem dX8_key_77 : decode cX8_key 77 = .ok (.iinc 3 1, 3) := by decide +kernel
theorem dX8_key_80 : decode cX8_key 80 = .ok (.goto (-25), 3) := by decide +kernel
theorem dX8_key_83 : decode cX8_key 83 = .ok (.aload_n 0, 1) := by decide +kernel
theorem dX8_key_84 : decode cX8_key 84 = .ok (.getfield 19, 3) := by decide +kernel
theorem dX8_key_87 : decode cX8_key 87 = .ok (.iload_n 1, 1) := by decide +kernel
theorem dX8_key_88 : decode cX8_key 88 = .ok (.iload_n 2, 1) := by decide +kernel
theorem dX8_key_89 : decode cX8_key 89 = .ok (.iastore, 1) := by decide +kernel
theorem dX8_key_90 : decode cX8_key 90 = .ok (.iload_n 2, 1) := by decide +kernel
theorem dX8_key_91 : decode cX8_key 91 = .ok (.ireturn, 1) := by decide +kernel
theorem dX8_submit_0 : decode cX8_submit 0 = .ok (.aload_n 0, 1) := by decide +kernel
theorem dX8_submit_1 : decode cX8_submit 1 = .ok (.invokevirtual 200, 3) := by decide +kernel
theorem dX8_submit_4 : decode cX8_submit 4 = .ok (.istore_n 2, 1) := by decide +kernel
theorem dX8_submit_5 : decode cX8_submit 5 = .ok (.aload_n 0, 1) := by decide +kernel
theorem dX8_submit_6 : decode cX8_submit 6 = .ok (.iload_n 1, 1) := by decide +kernel
theorem dX8_submit_7 : decode cX8_submit 7 = .ok (.invokestatic 204, 3) := by decide +kernel
theorem dX8_submit_10 : decode cX8_submit 10 = .ok (.ifCond .ne 7, 3) := by decide +kernel
theorem dX8_submit_13 : decode cX8_submit 13 = .ok (.iconst 1, 1) := by decide +kernel
theorem dX8_submit_14 : decode cX8_submit 14 = .ok (.goto 14, 3) := by decide +kernel
theorem dX8_submit_17 : decode cX8_submit 17 = .ok (.iload_n 2, 1) := by decide +kernel
theorem dX8_submit_18 : decode cX8_submit 18 = .ok (.bipush 120, 2) := by decide +kernel
theorem dX8_submit_20 : decode cX8_submit 20 = .ok (.if_icmp .le 7, 3) := by decide +kernel
theorem dX8_submit_23 : decode cX8_submit 23 = .ok (.iconst 2, 1) := by decide +kernel
theorem dX8_submit_24 : decode cX8_submit 24 = .ok (.goto 4, 3) := by decide +kernel
theorem dX8_submit_27 : decode cX8_submit 27 = .ok (.iconst 0, 1) := by decide +kernel
theorem dX8_submit_28 : decode cX8_submit 28 = .ok (.putfield 134, 3) := by decide +kernel
theorem dX8_submit_31 : decode cX8_submit 31 = .ok (.aload_n 0, 1) := by decide +kernel
theorem dX8_submit_32 : decode cX8_submit 32 = .ok (.getfield 134, 3) := by decide +kernel
theorem dX8_submit_35 : decode cX8_submit 35 = .ok (.ifCond .le 5, 3) := by decide +kernel
theorem dX8_submit_38 : decode cX8_submit 38 = .ok (.iconst 0, 1) := by decide +kernel
theorem dX8_submit_39 : decode cX8_submit 39 = .ok (.ireturn, 1) := by decide +kernel
theorem dX8_submit_40 : decode cX8_submit 40 = .ok (.iconst 0, 1) := by decide +kernel
theorem dX8_submit_41 : decode cX8_submit 41 = .ok (.istore_n 3, 1) := by decide +kernel
theorem dX8_submit_42 : decode cX8_submit 42 = .ok (.iload_n 3, 1) := by decide +kernel
theorem dX8_submit_43 : decode cX8_submit 43 = .ok (.aload_n 0, 1) := by decide +kernel
theorem dX8_submit_44 : decode cX8_submit 44 = .ok (.getfield 29, 3) := by decide +kernel
theorem dX8_submit_47 : decode cX8_submit 47 = .ok (.iload_n 1, 1) := by decide +kernel
theorem dX8_submit_48 : decode cX8_submit 48 = .ok (.iaload, 1) := by decide +kernel
theorem dX8_submit_49 : decode cX8_submit 49 = .ok (.if_icmp .ge 26, 3) := by decide +kernel
theorem dX8_submit_52 : decode cX8_submit 52 = .ok (.aload_n 0, 1) := by decide +kernel
theorem dX8_submit_53 : decode cX8_submit 53 = .ok (.sipush 200, 3) := by decide +kernel
theorem dX8_submit_56 : decode cX8_submit 56 = .ok (.iload_n 1, 1) := by decide +kernel
theorem dX8_submit_57 : decode cX8_submit 57 = .ok (.imul, 1) := by decide +kernel
theorem dX8_submit_58 : decode cX8_submit 58 = .ok (.iload_n 3, 1) := by decide +kernel
theorem dX8_submit_59 : decode cX8_submit 59 = .ok (.iadd, 1) := by decide +kernel
theorem dX8_submit_60 : decode cX8_submit 60 = .ok (.iload_n 2, 1) := by decide +kernel
theorem dX8_submit_61 : decode cX8_submit 61 = .ok (.invokevirtual 208, 3) := by decide +kernel
theorem dX8_submit_64 : decode cX8_submit 64 = .ok (.ifCond .eq 5, 3) := by decide +kernel
theorem dX8_submit_67 : decode cX8_submit 67 = .ok (.iload_n 3, 1) := by decide +kernel
theorem dX8_submit_68 : decode cX8_submit 68 = .ok (.ireturn, 1) := by decide +kernel
theorem dX8_submit_69 : decode cX8_submit 69 = .ok (.iinc 3 1, 3) := by decide +kernel
theorem dX8_submit_72 : decode cX8_submit 72 = .ok (.goto (-30), 3) := by decide +kernel
theorem dX8_submit_75 : decode cX8_submit 75 = .ok (.aload_n 0, 1) := by decide +kernel
theorem dX8_submit_76 : decode cX8_submit 76 = .ok (.getfield 29, 3) := by decide +kernel
theorem dX8_submit_79 : decode cX8_submit 79 = .ok (.iload_n 1, 1) := by decide +kernel
theorem dX8_submit_80 : decode cX8_submit 80 = .ok (.iaload, 1) := by decide +kernel
theorem dX8_submit_81 : decode cX8_submit 81 = .ok (.sipush 200, 3) := by decide +kernel
theorem dX8_submit_84 : decode cX8_submit 84 = .ok (.if_icmp .ne 10, 3) := by decide +kernel
theorem dX8_submit_87 : decode cX8_submit 87 = .ok (.aload_n 0, 1) := by decide +kernel
theorem dX8_submit_88 : decode cX8_submit 88 = .ok (.iconst 3, 1) := by decide +kernel
theorem dX8_submit_89 : decode cX8_submit 89 = .ok (.putfield 134, 3) := by decide +kernel
theorem dX8_submit_92 : decode cX8_submit 92 = .ok (.iconst 0, 1) := by decide +kernel
theorem dX8_submit_93 : decode cX8_submit 93 = .ok (.ireturn, 1) := by decide +kernel
theorem dX8_submit_94 : decode cX8_submit 94 = .ok (.sipush 200, 3) := by decide +kernel
theorem dX8_submit_97 : decode cX8_submit 97 = .ok (.iload_n 1, 1) := by decide +kernel
theorem dX8_submit_98 : decode cX8_submit 98 = .ok (.imul, 1) := by decide +kernel
theorem dX8_submit_99 : decode cX8_submit 99 = .ok (.aload_n 0, 1) := by decide +kernel
theorem dX8_submit_100 : decode cX8_submit 100 = .ok (.getfield 29, 3) := by decide +kernel
theorem dX8_submit_103 : decode cX8_submit 103 = .ok (.iload_n 1, 1) := by decide +kernel
theorem dX8_submit_104 : decode cX8_submit 104 = .ok (.iaload, 1) := by decide +kernel
theorem dX8_submit_105 : decode cX8_submit 105 = .ok (.iadd, 1) := by decide +kernel
theorem dX8_submit_106 : decode cX8_submit 106 = .ok (.istore_n 3, 1) := by decide +kernel
theorem dX8_submit_107 : decode cX8_submit 107 = .ok (.aload_n 0, 1) := by decide +kernel
theorem dX8_submit_108 : decode cX8_submit 108 = .ok (.getfield 26, 3) := by decide +kernel
theorem dX8_submit_111 : decode cX8_submit 111 = .ok (.iload_n 3, 1) := by decide +kernel
theorem dX8_submit_112 : decode cX8_submit 112 = .ok (.iload_n 2, 1) := by decide +kernel
theorem dX8_submit_113 : decode cX8_submit 113 = .ok (.iastore, 1) := by decide +kernel
theorem dX8_submit_114 : decode cX8_submit 114 = .ok (.iconst 0, 1) := by decide +kernel
theorem dX8_submit_115 : decode cX8_submit 115 = .ok (.istore 4, 2) := by decide +kernel
theorem dX8_submit_117 : decode cX8_submit 117 = .ok (.iload 4, 2) := by decide +kernel
theorem dX8_submit_119 : decode cX8_submit 119 = .ok (.iload_n 2, 1) := by decide +kernel
theorem dX8_submit_120 : decode cX8_submit 120 = .ok (.if_icmp .ge 28, 3) := by decide +kernel
theorem dX8_submit_123 : decode cX8_submit 123 = .ok (.aload_n 0, 1) := by decide +kernel
theorem dX8_submit_124 : decode cX8_submit 124 = .ok (.getfield 23, 3) := by decide +kernel
theorem dX8_submit_127 : decode cX8_submit 127 = .ok (.bipush 120, 2) := by decide +kernel
theorem dX8_submit_129 : decode cX8_submit 129 = .ok (.iload_n 3, 1) := by decide +kernel
theorem dX8_submit_130 : decode cX8_submit 130 = .ok (.imul, 1) := by decide +kernel
theorem dX8_submit_131 : decode cX8_submit 131 = .ok (.iload 4, 2) := by decide +kernel
theorem dX8_submit_133 : decode cX8_submit 133 = .ok (.iadd, 1) := by decide +kernel
theorem dX8_submit_134 : decode cX8_submit 134 = .ok (.aload_n 0, 1) := by decide +kernel
theorem dX8_submit_135 : decode cX8_submit 135 = .ok (.getfield 7, 3) := by decide +kernel
theorem dX8_submit_138 : decode cX8_submit 138 = .ok (.iload 4, 2) := by decide +kernel
theorem dX8_submit_140 : decode cX8_submit 140 = .ok (.iaload, 1) := by decide +kernel
theorem dX8_submit_141 : decode cX8_submit 141 = .ok (.iastore, 1) := by decide +kernel
theorem dX8_submit_142 : decode cX8_submit 142 = .ok (.iinc 4 1, 3) := by decide +kernel
theorem dX8_submit_145 : decode cX8_submit 145 = .ok (.goto (-28), 3) := by decide +kernel
theorem dX8_submit_148 : decode cX8_submit 148 = .ok (.aload_n 0, 1) := by decide +kernel
theorem dX8_submit_149 : decode cX8_submit 149 = .ok (.getfield 29, 3) := by decide +kernel
theorem dX8_submit_152 : decode cX8_submit 152 = .ok (.iload_n 1, 1) := by decide +kernel
theorem dX8_submit_153 : decode cX8_submit 153 = .ok (.dup2, 1) := by decide +kernel
theorem dX8_submit_154 : decode cX8_submit 154 = .ok (.iaload, 1) := by decide +kernel
theorem dX8_submit_155 : decode cX8_submit 155 = .ok (.iconst 1, 1) := by decide +kernel
theorem dX8_submit_156 : decode cX8_submit 156 = .ok (.iadd, 1) := by decide +kernel
theorem dX8_submit_157 : decode cX8_submit 157 = .ok (.iastore, 1) := by decide +kernel
theorem dX8_submit_158 : decode cX8_submit 158 = .ok (.aload_n 0, 1) := by decide +kernel
theorem dX8_submit_159 : decode cX8_submit 159 = .ok (.getfield 29, 3) := by decide +kernel
theorem dX8_submit_162 : decode cX8_submit 162 = .ok (.iload_n 1, 1) := by decide +kernel
theorem dX8_submit_163 : decode cX8_submit 163 = .ok (.iaload, 1) := by decide +kernel
theorem dX8_submit_164 : decode cX8_submit 164 = .ok (.iconst 1, 1) := by decide +kernel
theorem dX8_submit_165 : decode cX8_submit 165 = .ok (.isub, 1) := by decide +kernel
theorem dX8_submit_166 : decode cX8_submit 166 = .ok (.ireturn, 1) := by decide +kernel
theorem dX8_isEntry_0 : decode cX8_isEntry 0 = .ok (.aload_n 0, 1) := by decide +kernel
theorem dX8_isEntry_1 : decode cX8_isEntry 1 = .ok (.getfield 26, 3) := by decide +kernel
theorem dX8_isEntry_4 : decode cX8_isEntry 4 = .ok (.iload_n 1, 1) := by decide +kernel
theorem dX8_isEntry_5 : decode cX8_isEntry 5 = .ok (.iaload, 1) := by decide +kernel
theorem dX8_isEntry_6 : decode cX8_isEntry 6 = .ok (.iload_n 2, 1) := by decide +kernel
theorem dX8_isEntry_7 : decode cX8_isEntry 7 = .ok (.if_icmp .ne 7, 3) := by decide +kernel
theorem dX8_isEntry_10 : decode cX8_isEntry 10 = .ok (.iconst 1, 1) := by decide +kernel
theorem dX8_isEntry_11 : decode cX8_isEntry 11 = .ok (.goto 4, 3) := by decide +kernel
theorem dX8_isEntry_14 : decode cX8_isEntry 14 = .ok (.iconst 0, 1) := by decide +kernel
theorem dX8_isEntry_15 : decode cX8_isEntry 15 = .ok (.istore_n 3, 1) := by decide +kernel
theorem dX8_isEntry_16 : decode cX8_isEntry 16 = .ok (.iconst 0, 1) := by decide +kernel
theorem dX8_isEntry_17 : decode cX8_isEntry 17 = .ok (.istore 4, 2) := by decide +kernel
theorem dX8_isEntry_19 : decode cX8_isEntry 19 = .ok (.iload 4, 2) := by decide +kernel
theorem dX8_isEntry_21 : decode cX8_isEntry 21 = .ok (.iload_n 2, 1) := by decide +kernel
theorem dX8_isEntry_22 : decode cX8_isEntry 22 = .ok (.if_icmp .ge 41, 3) := by decide +kernel
theorem dX8_isEntry_25 : decode cX8_isEntry 25 = .ok (.iload_n 3, 1) := by decide +kernel
theorem dX8_isEntry_26 : decode cX8_isEntry 26 = .ok (.ifCond .eq 37, 3) := by decide +kernel
theorem dX8_isEntry_29 : decode cX8_isEntry 29 = .ok (.aload_n 0, 1) := by decide +kernel
theorem dX8_isEntry_30 : decode cX8_isEntry 30 = .ok (.getfield 23, 3) := by decide +kernel
theorem dX8_isEntry_33 : decode cX8_isEntry 33 = .ok (.bipush 120, 2) := by decide +kernel
theorem dX8_isEntry_35 : decode cX8_isEntry 35 = .ok (.iload_n 1, 1) := by decide +kernel
theorem dX8_isEntry_36 : decode cX8_isEntry 36 = .ok (.imul, 1) := by decide +kernel
theorem dX8_isEntry_37 : decode cX8_isEntry 37 = .ok (.iload 4, 2) := by decide +kernel
theorem dX8_isEntry_39 : decode cX8_isEntry 39 = .ok (.iadd, 1) := by decide +kernel
theorem dX8_isEntry_40 : decode cX8_isEntry 40 = .ok (.iaload, 1) := by decide +kernel
theorem dX8_isEntry_41 : decode cX8_isEntry 41 = .ok (.aload_n 0, 1) := by decide +kernel
theorem dX8_isEntry_42 : decode cX8_isEntry 42 = .ok (.getfield 7, 3) := by decide +kernel
theorem dX8_isEntry_45 : decode cX8_isEntry 45 = .ok (.iload 4, 2) := by decide +kernel
theorem dX8_isEntry_47 : decode cX8_isEntry 47 = .ok (.iaload, 1) := by decide +kernel
theorem dX8_isEntry_48 : decode cX8_isEntry 48 = .ok (.if_icmp .ne 7, 3) := by decide +kernel
theorem dX8_isEntry_51 : decode cX8_isEntry 51 = .ok (.iconst 1, 1) := by decide +kernel
theorem dX8_isEntry_52 : decode cX8_isEntry 52 = .ok (.goto 4, 3) := by decide +kernel
theorem dX8_isEntry_55 : decode cX8_isEntry 55 = .ok (.iconst 0, 1) := by decide +kernel
theorem dX8_isEntry_56 : decode cX8_isEntry 56 = .ok (.istore_n 3, 1) := by decide +kernel
theorem dX8_isEntry_57 : decode cX8_isEntry 57 = .ok (.iinc 4 1, 3) := by decide +kernel
theorem dX8_isEntry_60 : decode cX8_isEntry 60 = .ok (.goto (-41), 3) := by decide +kernel
theorem dX8_isEntry_63 : decode cX8_isEntry 63 = .ok (.iload_n 3, 1) := by decide +kernel
theorem dX8_isEntry_64 : decode cX8_isEntry 64 = .ok (.ireturn, 1) := by decide +kernel
theorem dX8_cut_0 : decode cX8_cut 0 = .ok (.aload_n 0, 1) := by decide +kernel
theorem dX8_cut_1 : decode cX8_cut 1 = .ok (.iload_n 1, 1) := by decide +kernel
theorem dX8_cut_2 : decode cX8_cut 2 = .ok (.invokestatic 204, 3) := by decide +kernel
theorem dX8_cut_5 : decode cX8_cut 5 = .ok (.ifCond .ne 7, 3) := by decide +kernel
theorem dX8_cut_8 : decode cX8_cut 8 = .ok (.iconst 1, 1) := by decide +kernel
theorem dX8_cut_9 : decode cX8_cut 9 = .ok (.goto 49, 3) := by decide +kernel
theorem dX8_cut_12 : decode cX8_cut 12 = .ok (.lload_n 2, 1) := by decide +kernel
theorem dX8_cut_13 : decode cX8_cut 13 = .ok (.lconst 0, 1) := by decide +kernel
theorem dX8_cut_14 : decode cX8_cut 14 = .ok (.lcmp, 1) := by decide +kernel
theorem dX8_cut_15 : decode cX8_cut 15 = .ok (.ifCond .lt 23, 3) := by decide +kernel
theorem dX8_cut_18 : decode cX8_cut 18 = .ok (.aload_n 0, 1) := by decide +kernel
theorem dX8_cut_19 : decode cX8_cut 19 = .ok (.getfield 42, 3) := by decide +kernel
theorem dX8_cut_22 : decode cX8_cut 22 = .ok (.iload_n 1, 1) := by decide +kernel
theorem dX8_cut_23 : decode cX8_cut 23 = .ok (.iaload, 1) := by decide +kernel
theorem dX8_cut_24 : decode cX8_cut 24 = .ok (.ifCond .le 18, 3) := by decide +kernel
theorem dX8_cut_27 : decode cX8_cut 27 = .ok (.lload_n 2, 1) := by decide +kernel
theorem dX8_cut_28 : decode cX8_cut 28 = .ok (.aload_n 0, 1) := by decide +kernel
theorem dX8_cut_29 : decode cX8_cut 29 = .ok (.getfield 38, 3) := by decide +kernel
theorem dX8_cut_32 : decode cX8_cut 32 = .ok (.iload_n 1, 1) := by decide +kernel
theorem dX8_cut_33 : decode cX8_cut 33 = .ok (.laload, 1) := by decide +kernel
theorem dX8_cut_34 : decode cX8_cut 34 = .ok (.lcmp, 1) := by decide +kernel
theorem dX8_cut_35 : decode cX8_cut 35 = .ok (.ifCond .ge 7, 3) := by decide +kernel
theorem dX8_cut_38 : decode cX8_cut 38 = .ok (.iconst 2, 1) := by decide +kernel
theorem dX8_cut_39 : decode cX8_cut 39 = .ok (.goto 19, 3) := by decide +kernel
theorem dX8_cut_42 : decode cX8_cut 42 = .ok (.aload_n 0, 1) := by decide +kernel
theorem dX8_cut_43 : decode cX8_cut 43 = .ok (.getfield 42, 3) := by decide +kernel
theorem dX8_cut_46 : decode cX8_cut 46 = .ok (.iload_n 1, 1) := by decide +kernel
theorem dX8_cut_47 : decode cX8_cut 47 = .ok (.iaload, 1) := by decide +kernel
theorem dX8_cut_48 : decode cX8_cut 48 = .ok (.bipush 40, 2) := by decide +kernel
theorem dX8_cut_50 : decode cX8_cut 50 = .ok (.if_icmp .ne 7, 3) := by decide +kernel
theorem dX8_cut_53 : decode cX8_cut 53 = .ok (.iconst 3, 1) := by decide +kernel
theorem dX8_cut_54 : decode cX8_cut 54 = .ok (.goto 4, 3) := by decide +kernel
theorem dX8_cut_57 : decode cX8_cut 57 = .ok (.iconst 0, 1) := by decide +kernel
theorem dX8_cut_58 : decode cX8_cut 58 = .ok (.putfield 134, 3) := by decide +kernel
theorem dX8_cut_61 : decode cX8_cut 61 = .ok (.aload_n 0, 1) := by decide +kernel
theorem dX8_cut_62 : decode cX8_cut 62 = .ok (.getfield 134, 3) := by decide +kernel
theorem dX8_cut_65 : decode cX8_cut 65 = .ok (.ifCond .le 5, 3) := by decide +kernel
theorem dX8_cut_68 : decode cX8_cut 68 = .ok (.iconst 0, 1) := by decide +kernel
theorem dX8_cut_69 : decode cX8_cut 69 = .ok (.ireturn, 1) := by decide +kernel
theorem dX8_cut_70 : decode cX8_cut 70 = .ok (.aload_n 0, 1) := by decide +kernel
theorem dX8_cut_71 : decode cX8_cut 71 = .ok (.getfield 32, 3) := by decide +kernel
theorem dX8_cut_74 : decode cX8_cut 74 = .ok (.iload_n 1, 1) := by decide +kernel
theorem dX8_cut_75 : decode cX8_cut 75 = .ok (.aload_n 0, 1) := by decide +kernel
theorem dX8_cut_76 : decode cX8_cut 76 = .ok (.getfield 29, 3) := by decide +kernel
theorem dX8_cut_79 : decode cX8_cut 79 = .ok (.iload_n 1, 1) := by decide +kernel
theorem dX8_cut_80 : decode cX8_cut 80 = .ok (.iaload, 1) := by decide +kernel
theorem dX8_cut_81 : decode cX8_cut 81 = .ok (.iastore, 1) := by decide +kernel
theorem dX8_cut_82 : decode cX8_cut 82 = .ok (.aload_n 0, 1) := by decide +kernel
theorem dX8_cut_83 : decode cX8_cut 83 = .ok (.getfield 38, 3) := by decide +kernel
theorem dX8_cut_86 : decode cX8_cut 86 = .ok (.iload_n 1, 1) := by decide +kernel
theorem dX8_cut_87 : decode cX8_cut 87 = .ok (.lload_n 2, 1) := by decide +kernel
theorem dX8_cut_88 : decode cX8_cut 88 = .ok (.lastore, 1) := by decide +kernel
theorem dX8_cut_89 : decode cX8_cut 89 = .ok (.aload_n 0, 1) := by decide +kernel
theorem dX8_cut_90 : decode cX8_cut 90 = .ok (.iload_n 1, 1) := by decide +kernel
theorem dX8_cut_91 : decode cX8_cut 91 = .ok (.iconst 0, 1) := by decide +kernel
theorem dX8_cut_92 : decode cX8_cut 92 = .ok (.aload_n 0, 1) := by decide +kernel
theorem dX8_cut_93 : decode cX8_cut 93 = .ok (.getfield 32, 3) := by decide +kernel
theorem dX8_cut_96 : decode cX8_cut 96 = .ok (.iload_n 1, 1) := by decide +kernel
theorem dX8_cut_97 : decode cX8_cut 97 = .ok (.iaload, 1) := by decide +kernel
theorem dX8_cut_98 : decode cX8_cut 98 = .ok (.iconst 4, 1) := by decide +kernel
theorem dX8_cut_99 : decode cX8_cut 99 = .ok (.invokestatic 189, 3) := by decide +kernel
theorem dX8_cut_102 : decode cX8_cut 102 = .ok (.aload_n 0, 1) := by decide +kernel
theorem dX8_cut_103 : decode cX8_cut 103 = .ok (.iconst 4, 1) := by decide +kernel
theorem dX8_cut_104 : decode cX8_cut 104 = .ok (.iconst 0, 1) := by decide +kernel
theorem dX8_cut_105 : decode cX8_cut 105 = .ok (.invokevirtual 212, 3) := by decide +kernel
theorem dX8_cut_108 : decode cX8_cut 108 = .ok (.aload_n 0, 1) := by decide +kernel
theorem dX8_cut_109 : decode cX8_cut 109 = .ok (.iload_n 1, 1) := by decide +kernel
theorem dX8_cut_110 : decode cX8_cut 110 = .ok (.lload_n 2, 1) := by decide +kernel
theorem dX8_cut_111 : decode cX8_cut 111 = .ok (.aload_n 0, 1) := by decide +kernel
theorem dX8_cut_112 : decode cX8_cut 112 = .ok (.getfield 32, 3) := by decide +kernel
theorem dX8_cut_115 : decode cX8_cut 115 = .ok (.iload_n 1, 1) := by decide +kernel
theorem dX8_cut_116 : decode cX8_cut 116 = .ok (.iaload, 1) := by decide +kernel
theorem dX8_cut_117 : decode cX8_cut 117 = .ok (.i2l, 1) := by decide +kernel
theorem dX8_cut_118 : decode cX8_cut 118 = .ok (.invokevirtual 215, 3) := by decide +kernel
theorem dX8_cut_121 : decode cX8_cut 121 = .ok (.bipush 80, 2) := by decide +kernel
theorem dX8_cut_123 : decode cX8_cut 123 = .ok (.bipush 40, 2) := by decide +kernel
theorem dX8_cut_125 : decode cX8_cut 125 = .ok (.iload_n 1, 1) := by decide +kernel
theorem dX8_cut_126 : decode cX8_cut 126 = .ok (.imul, 1) := by decide +kernel
theorem dX8_cut_127 : decode cX8_cut 127 = .ok (.aload_n 0, 1) := by decide +kernel
theorem dX8_cut_128 : decode cX8_cut 128 = .ok (.getfield 42, 3) := by decide +kernel
theorem dX8_cut_131 : decode cX8_cut 131 = .ok (.iload_n 1, 1) := by decide +kernel
theorem dX8_cut_132 : decode cX8_cut 132 = .ok (.iaload, 1) := by decide +kernel
theorem dX8_cut_133 : decode cX8_cut 133 = .ok (.iadd, 1) := by decide +kernel
theorem dX8_cut_134 : decode cX8_cut 134 = .ok (.imul, 1) := by decide +kernel
theorem dX8_cut_135 : decode cX8_cut 135 = .ok (.istore 4, 2) := by decide +kernel
theorem dX8_cut_137 : decode cX8_cut 137 = .ok (.iconst 0, 1) := by decide +kernel
theorem dX8_cut_138 : decode cX8_cut 138 = .ok (.istore 5, 2) := by decide +kernel
theorem dX8_cut_140 : decode cX8_cut 140 = .ok (.iload 5, 2) := by decide +kernel
theorem dX8_cut_142 : decode cX8_cut 142 = .ok (.bipush 80, 2) := by decide +kernel
theorem dX8_cut_144 : decode cX8_cut 144 = .ok (.if_icmp .ge 33, 3) := by decide +kernel
theorem dX8_cut_147 : decode cX8_cut 147 = .ok (.aload_n 0, 1) := by decide +kernel
theorem dX8_cut_148 : decode cX8_cut 148 = .ok (.getfield 35, 3) := by decide +kernel
theorem dX8_cut_151 : decode cX8_cut 151 = .ok (.iload 4, 2) := by decide +kernel
theorem dX8_cut_153 : decode cX8_cut 153 = .ok (.iload 5, 2) := by decide +kernel
theorem dX8_cut_155 : decode cX8_cut 155 = .ok (.iadd, 1) := by decide +kernel
theorem dX8_cut_156 : decode cX8_cut 156 = .ok (.aload_n 0, 1) := by decide +kernel
theorem dX8_cut_157 : decode cX8_cut 157 = .ok (.iload 5, 2) := by decide +kernel
theorem dX8_cut_159 : decode cX8_cut 159 = .ok (.lload_n 2, 1) := by decide +kernel
theorem dX8_cut_160 : decode cX8_cut 160 = .ok (.aload_n 0, 1) := by decide +kernel
theorem dX8_cut_161 : decode cX8_cut 161 = .ok (.getfield 32, 3) := by decide +kernel
theorem dX8_cut_164 : decode cX8_cut 164 = .ok (.iload_n 1, 1) := by decide +kernel
theorem dX8_cut_165 : decode cX8_cut 165 = .ok (.iaload, 1) := by decide +kernel
theorem dX8_cut_166 : decode cX8_cut 166 = .ok (.i2l, 1) := by decide +kernel
theorem dX8_cut_167 : decode cX8_cut 167 = .ok (.invokevirtual 219, 3) := by decide +kernel
theorem dX8_cut_170 : decode cX8_cut 170 = .ok (.iastore, 1) := by decide +kernel
theorem dX8_cut_171 : decode cX8_cut 171 = .ok (.iinc 5 1, 3) := by decide +kernel
theorem dX8_cut_174 : decode cX8_cut 174 = .ok (.goto (-34), 3) := by decide +kernel
theorem dX8_cut_177 : decode cX8_cut 177 = .ok (.aload_n 0, 1) := by decide +kernel
theorem dX8_cut_178 : decode cX8_cut 178 = .ok (.getfield 42, 3) := by decide +kernel
theorem dX8_cut_181 : decode cX8_cut 181 = .ok (.iload_n 1, 1) := by decide +kernel
theorem dX8_cut_182 : decode cX8_cut 182 = .ok (.dup2, 1) := by decide +kernel
theorem dX8_cut_183 : decode cX8_cut 183 = .ok (.iaload, 1) := by decide +kernel
theorem dX8_cut_184 : decode cX8_cut 184 = .ok (.iconst 1, 1) := by decide +kernel
theorem dX8_cut_185 : decode cX8_cut 185 = .ok (.iadd, 1) := by decide +kernel
theorem dX8_cut_186 : decode cX8_cut 186 = .ok (.iastore, 1) := by decide +kernel
theorem dX8_cut_187 : decode cX8_cut 187 = .ok (.aload_n 0, 1) := by decide +kernel
theorem dX8_cut_188 : decode cX8_cut 188 = .ok (.getfield 42, 3) := by decide +kernel
theorem dX8_cut_191 : decode cX8_cut 191 = .ok (.iload_n 1, 1) := by decide +kernel
theorem dX8_cut_192 : decode cX8_cut 192 = .ok (.iaload, 1) := by decide +kernel
theorem dX8_cut_193 : decode cX8_cut 193 = .ok (.iconst 1, 1) := by decide +kernel
theorem dX8_cut_194 : decode cX8_cut 194 = .ok (.isub, 1) := by decide +kernel
theorem dX8_cut_195 : decode cX8_cut 195 = .ok (.ireturn, 1) := by decide +kernel
theorem dX8_headByte_0 : decode cX8_headByte 0 = .ok (.iload_n 1, 1) := by decide +kernel
theorem dX8_headByte_1 : decode cX8_headByte 1 = .ok (.bipush 8, 2) := by decide +kernel
theorem dX8_headByte_3 : decode cX8_headByte 3 = .ok (.if_icmp .ge 18, 3) := by decide +kernel
theorem dX8_headByte_6 : decode cX8_headByte 6 = .ok (.lload_n 2, 1) := by decide +kernel
theorem dX8_headByte_7 : decode cX8_headByte 7 = .ok (.bipush 56, 2) := by decide +kernel
theorem dX8_headByte_9 : decode cX8_headByte 9 = .ok (.bipush 8, 2) := by decide +kernel
theorem dX8_headByte_11 : decode cX8_headByte 11 = .ok (.iload_n 1, 1) := by decide +kernel
theorem dX8_headByte_12 : decode cX8_headByte 12 = .ok (.imul, 1) := by decide +kernel
theorem dX8_headByte_13 : decode cX8_headByte 13 = .ok (.isub, 1) := by decide +kernel
theorem dX8_headByte_14 : decode cX8_headByte 14 = .ok (.lshr, 1) := by decide +kernel
theorem dX8_headByte_15 : decode cX8_headByte 15 = .ok (.l2i, 1) := by decide +kernel
theorem dX8_headByte_16 : decode cX8_headByte 16 = .ok (.sipush 255, 3) := by decide +kernel
theorem dX8_headByte_19 : decode cX8_headByte 19 = .ok (.iand, 1) := by decide +kernel
theorem dX8_headByte_20 : decode cX8_headByte 20 = .ok (.ireturn, 1) := by decide +kernel
theorem dX8_headByte_21 : decode cX8_headByte 21 = .ok (.iload_n 1, 1) := by decide +kernel
theorem dX8_headByte_22 : decode cX8_headByte 22 = .ok (.bipush 16, 2) := by decide +kernel
theorem dX8_headByte_24 : decode cX8_headByte 24 = .ok (.if_icmp .ge 22, 3) := by decide +kernel
theorem dX8_headByte_27 : decode cX8_headByte 27 = .ok (.lload 4, 2) := by decide +kernel
theorem dX8_headByte_29 : decode cX8_headByte 29 = .ok (.bipush 56, 2) := by decide +kernel
theorem dX8_headByte_31 : decode cX8_headByte 31 = .ok (.bipush 8, 2) := by decide +kernel
theorem dX8_headByte_33 : decode cX8_headByte 33 = .ok (.iload_n 1, 1) := by decide +kernel
theorem dX8_headByte_34 : decode cX8_headByte 34 = .ok (.bipush 8, 2) := by decide +kernel
theorem dX8_headByte_36 : decode cX8_headByte 36 = .ok (.isub, 1) := by decide +kernel
theorem dX8_headByte_37 : decode cX8_headByte 37 = .ok (.imul, 1) := by decide +kernel
theorem dX8_headByte_38 : decode cX8_headByte 38 = .ok (.isub, 1) := by decide +kernel
theorem dX8_headByte_39 : decode cX8_headByte 39 = .ok (.lshr, 1) := by decide +kernel
theorem dX8_headByte_40 : decode cX8_headByte 40 = .ok (.l2i, 1) := by decide +kernel
theorem dX8_headByte_41 : decode cX8_headByte 41 = .ok (.sipush 255, 3) := by decide +kernel
theorem dX8_headByte_44 : decode cX8_headByte 44 = .ok (.iand, 1) := by decide +kernel
theorem dX8_headByte_45 : decode cX8_headByte 45 = .ok (.ireturn, 1) := by decide +kernel
theorem dX8_headByte_46 : decode cX8_headByte 46 = .ok (.iload_n 1, 1) := by decide +kernel
theorem dX8_headByte_47 : decode cX8_headByte 47 = .ok (.bipush 16, 2) := by decide +kernel
theorem dX8_headByte_49 : decode cX8_headByte 49 = .ok (.isub, 1) := by decide +kernel
theorem dX8_headByte_50 : decode cX8_headByte 50 = .ok (.istore 6, 2) := by decide +kernel
theorem dX8_headByte_52 : decode cX8_headByte 52 = .ok (.aload_n 0, 1) := by decide +kernel
theorem dX8_headByte_53 : decode cX8_headByte 53 = .ok (.getfield 128, 3) := by decide +kernel
theorem dX8_headByte_56 : decode cX8_headByte 56 = .ok (.iload 6, 2) := by decide +kernel
theorem dX8_headByte_58 : decode cX8_headByte 58 = .ok (.iconst 4, 1) := by decide +kernel
theorem dX8_headByte_59 : decode cX8_headByte 59 = .ok (.idiv, 1) := by decide +kernel
theorem dX8_headByte_60 : decode cX8_headByte 60 = .ok (.iaload, 1) := by decide +kernel
theorem dX8_headByte_61 : decode cX8_headByte 61 = .ok (.bipush 24, 2) := by decide +kernel
theorem dX8_headByte_63 : decode cX8_headByte 63 = .ok (.bipush 8, 2) := by decide +kernel
theorem dX8_headByte_65 : decode cX8_headByte 65 = .ok (.iload 6, 2) := by decide +kernel
theorem dX8_headByte_67 : decode cX8_headByte 67 = .ok (.iconst 4, 1) := by decide +kernel
theorem dX8_headByte_68 : decode cX8_headByte 68 = .ok (.irem, 1) := by decide +kernel
theorem dX8_headByte_69 : decode cX8_headByte 69 = .ok (.imul, 1) := by decide +kernel
theorem dX8_headByte_70 : decode cX8_headByte 70 = .ok (.isub, 1) := by decide +kernel
theorem dX8_headByte_71 : decode cX8_headByte 71 = .ok (.ishr, 1) := by decide +kernel
theorem dX8_headByte_72 : decode cX8_headByte 72 = .ok (.sipush 255, 3) := by decide +kernel
theorem dX8_headByte_75 : decode cX8_headByte 75 = .ok (.iand, 1) := by decide +kernel
theorem dX8_headByte_76 : decode cX8_headByte 76 = .ok (.ireturn, 1) := by decide +kernel
theorem dX8_size_0 : decode cX8_size 0 = .ok (.aload_n 0, 1) := by decide +kernel
theorem dX8_size_1 : decode cX8_size 1 = .ok (.iload_n 1, 1) := by decide +kernel
theorem dX8_size_2 : decode cX8_size 2 = .ok (.invokestatic 204, 3) := by decide +kernel
theorem dX8_size_5 : decode cX8_size 5 = .ok (.ifCond .ne 7, 3) := by decide +kernel
theorem dX8_size_8 : decode cX8_size 8 = .ok (.iconst 1, 1) := by decide +kernel
theorem dX8_size_9 : decode cX8_size 9 = .ok (.goto 17, 3) := by decide +kernel
theorem dX8_size_12 : decode cX8_size 12 = .ok (.iload_n 2, 1) := by decide +kernel
theorem dX8_size_13 : decode cX8_size 13 = .ok (.ifCond .lt 8, 3) := by decide +kernel
theorem dX8_size_16 : decode cX8_size 16 = .ok (.iload_n 2, 1) := by decide +kernel
theorem dX8_size_17 : decode cX8_size 17 = .ok (.iconst 3, 1) := by decide +kernel
theorem dX8_size_18 : decode cX8_size 18 = .ok (.if_icmp .le 7, 3) := by decide +kernel
theorem dX8_size_21 : decode cX8_size 21 = .ok (.iconst 2, 1) := by decide +kernel
theorem dX8_size_22 : decode cX8_size 22 = .ok (.goto 4, 3) := by decide +kernel
theorem dX8_size_25 : decode cX8_size 25 = .ok (.iconst 0, 1) := by decide +kernel
theorem dX8_size_26 : decode cX8_size 26 = .ok (.putfield 134, 3) := by decide +kernel
theorem dX8_size_29 : decode cX8_size 29 = .ok (.aload_n 0, 1) := by decide +kernel
theorem dX8_size_30 : decode cX8_size 30 = .ok (.getfield 134, 3) := by decide +kernel
theorem dX8_size_33 : decode cX8_size 33 = .ok (.ifCond .le 5, 3) := by decide +kernel
theorem dX8_size_36 : decode cX8_size 36 = .ok (.iconst 0, 1) := by decide +kernel
theorem dX8_size_37 : decode cX8_size 37 = .ok (.ireturn, 1) := by decide +kernel
theorem dX8_size_38 : decode cX8_size 38 = .ok (.iload_n 2, 1) := by decide +kernel
theorem dX8_size_39 : decode cX8_size 39 = .ok (.ifCond .ne 12, 3) := by decide +kernel
theorem dX8_size_42 : decode cX8_size 42 = .ok (.aload_n 0, 1) := by decide +kernel
theorem dX8_size_43 : decode cX8_size 43 = .ok (.getfield 29, 3) := by decide +kernel
theorem dX8_size_46 : decode cX8_size 46 = .ok (.iload_n 1, 1) := by decide +kernel
theorem dX8_size_47 : decode cX8_size 47 = .ok (.iaload, 1) := by decide +kernel
theorem dX8_size_48 : decode cX8_size 48 = .ok (.goto 37, 3) := by decide +kernel
theorem dX8_size_51 : decode cX8_size 51 = .ok (.iload_n 2, 1) := by decide +kernel
theorem dX8_size_52 : decode cX8_size 52 = .ok (.iconst 1, 1) := by decide +kernel
theorem dX8_size_53 : decode cX8_size 53 = .ok (.if_icmp .ne 12, 3) := by decide +kernel
theorem dX8_size_56 : decode cX8_size 56 = .ok (.aload_n 0, 1) := by decide +kernel
theorem dX8_size_57 : decode cX8_size 57 = .ok (.getfield 32, 3) := by decide +kernel
theorem dX8_size_60 : decode cX8_size 60 = .ok (.iload_n 1, 1) := by decide +kernel
theorem dX8_size_61 : decode cX8_size 61 = .ok (.iaload, 1) := by decide +kernel
theorem dX8_size_62 : decode cX8_size 62 = .ok (.goto 23, 3) := by decide +kernel
theorem dX8_size_65 : decode cX8_size 65 = .ok (.iload_n 2, 1) := by decide +kernel
theorem dX8_size_66 : decode cX8_size 66 = .ok (.iconst 2, 1) := by decide +kernel
theorem dX8_size_67 : decode cX8_size 67 = .ok (.if_icmp .ne 12, 3) := by decide +kernel
theorem dX8_size_70 : decode cX8_size 70 = .ok (.aload_n 0, 1) := by decide +kernel
theorem dX8_size_71 : decode cX8_size 71 = .ok (.getfield 42, 3) := by decide +kernel
theorem dX8_size_74 : decode cX8_size 74 = .ok (.iload_n 1, 1) := by decide +kernel
theorem dX8_size_75 : decode cX8_size 75 = .ok (.iaload, 1) := by decide +kernel
theorem dX8_size_76 : decode cX8_size 76 = .ok (.goto 9, 3) := by decide +kernel
theorem dX8_size_79 : decode cX8_size 79 = .ok (.aload_n 0, 1) := by decide +kernel
theorem dX8_size_80 : decode cX8_size 80 = .ok (.getfield 19, 3) := by decide +kernel
theorem dX8_size_83 : decode cX8_size 83 = .ok (.iload_n 1, 1) := by decide +kernel
theorem dX8_size_84 : decode cX8_size 84 = .ok (.iaload, 1) := by decide +kernel
theorem dX8_size_85 : decode cX8_size 85 = .ok (.ireturn, 1) := by decide +kernel
theorem dX8_head_0 : decode cX8_head 0 = .ok (.aload_n 0, 1) := by decide +kernel
theorem dX8_head_1 : decode cX8_head 1 = .ok (.iload_n 1, 1) := by decide +kernel
theorem dX8_head_2 : decode cX8_head 2 = .ok (.invokestatic 204, 3) := by decide +kernel
theorem dX8_head_5 : decode cX8_head 5 = .ok (.ifCond .ne 7, 3) := by decide +kernel
theorem dX8_head_8 : decode cX8_head 8 = .ok (.iconst 1, 1) := by decide +kernel
theorem dX8_head_9 : decode cX8_head 9 = .ok (.goto 22, 3) := by decide +kernel
theorem dX8_head_12 : decode cX8_head 12 = .ok (.iload_n 2, 1) := by decide +kernel
theorem dX8_head_13 : decode cX8_head 13 = .ok (.ifCond .lt 13, 3) := by decide +kernel
theorem dX8_head_16 : decode cX8_head 16 = .ok (.iload_n 2, 1) := by decide +kernel
theorem dX8_head_17 : decode cX8_head 17 = .ok (.aload_n 0, 1) := by decide +kernel
theorem dX8_head_18 : decode cX8_head 18 = .ok (.getfield 42, 3) := by decide +kernel
theorem dX8_head_21 : decode cX8_head 21 = .ok (.iload_n 1, 1) := by decide +kernel
theorem dX8_head_22 : decode cX8_head 22 = .ok (.iaload, 1) := by decide +kernel
theorem dX8_head_23 : decode cX8_head 23 = .ok (.if_icmp .lt 7, 3) := by decide +kernel
theorem dX8_head_26 : decode cX8_head 26 = .ok (.iconst 2, 1) := by decide +kernel
theorem dX8_head_27 : decode cX8_head 27 = .ok (.goto 4, 3) := by decide +kernel
theorem dX8_head_30 : decode cX8_head 30 = .ok (.iconst 0, 1) := by decide +kernel
theorem dX8_head_31 : decode cX8_head 31 = .ok (.putfield 134, 3) := by decide +kernel
theorem dX8_head_34 : decode cX8_head 34 = .ok (.aload_n 0, 1) := by decide +kernel
theorem dX8_head_35 : decode cX8_head 35 = .ok (.getfield 134, 3) := by decide +kernel
theorem dX8_head_38 : decode cX8_head 38 = .ok (.ifCond .le 5, 3) := by decide +kernel
theorem dX8_head_41 : decode cX8_head 41 = .ok (.iconst 0, 1) := by decide +kernel
theorem dX8_head_42 : decode cX8_head 42 = .ok (.ireturn, 1) := by decide +kernel
theorem dX8_head_43 : decode cX8_head 43 = .ok (.bipush 80, 2) := by decide +kernel
theorem dX8_head_45 : decode cX8_head 45 = .ok (.bipush 40, 2) := by decide +kernel
theorem dX8_head_47 : decode cX8_head 47 = .ok (.iload_n 1, 1) := by decide +kernel
theorem dX8_head_48 : decode cX8_head 48 = .ok (.imul, 1) := by decide +kernel
theorem dX8_head_49 : decode cX8_head 49 = .ok (.iload_n 2, 1) := by decide +kernel
theorem dX8_head_50 : decode cX8_head 50 = .ok (.iadd, 1) := by decide +kernel
theorem dX8_head_51 : decode cX8_head 51 = .ok (.imul, 1) := by decide +kernel
theorem dX8_head_52 : decode cX8_head 52 = .ok (.istore_n 3, 1) := by decide +kernel
theorem dX8_head_53 : decode cX8_head 53 = .ok (.iconst 0, 1) := by decide +kernel
theorem dX8_head_54 : decode cX8_head 54 = .ok (.istore 4, 2) := by decide +kernel
theorem dX8_head_56 : decode cX8_head 56 = .ok (.iload 4, 2) := by decide +kernel
theorem dX8_head_58 : decode cX8_head 58 = .ok (.bipush 80, 2) := by decide +kernel
theorem dX8_head_60 : decode cX8_head 60 = .ok (.if_icmp .ge 25, 3) := by decide +kernel
theorem dX8_head_63 : decode cX8_head 63 = .ok (.aload_n 0, 1) := by decide +kernel
theorem dX8_head_64 : decode cX8_head 64 = .ok (.getfield 13, 3) := by decide +kernel
theorem dX8_head_67 : decode cX8_head 67 = .ok (.iload 4, 2) := by decide +kernel
theorem dX8_head_69 : decode cX8_head 69 = .ok (.aload_n 0, 1) := by decide +kernel
theorem dX8_head_70 : decode cX8_head 70 = .ok (.getfield 35, 3) := by decide +kernel
theorem dX8_head_73 : decode cX8_head 73 = .ok (.iload_n 3, 1) := by decide +kernel
theorem dX8_head_74 : decode cX8_head 74 = .ok (.iload 4, 2) := by decide +kernel
theorem dX8_head_76 : decode cX8_head 76 = .ok (.iadd, 1) := by decide +kernel
theorem dX8_head_77 : decode cX8_head 77 = .ok (.iaload, 1) := by decide +kernel
theorem dX8_head_78 : decode cX8_head 78 = .ok (.iastore, 1) := by decide +kernel
theorem dX8_head_79 : decode cX8_head 79 = .ok (.iinc 4 1, 3) := by decide +kernel
theorem dX8_head_82 : decode cX8_head 82 = .ok (.goto (-26), 3) := by decide +kernel
theorem dX8_head_85 : decode cX8_head 85 = .ok (.aload_n 0, 1) := by decide +kernel
theorem dX8_head_86 : decode cX8_head 86 = .ok (.bipush 80, 2) := by decide +kernel
theorem dX8_head_88 : decode cX8_head 88 = .ok (.putfield 145, 3) := by decide +kernel
theorem dX8_head_91 : decode cX8_head 91 = .ok (.iconst 0, 1) := by decide +kernel
theorem dX8_head_92 : decode cX8_head 92 = .ok (.istore 4, 2) := by decide +kernel
theorem dX8_head_94 : decode cX8_head 94 = .ok (.bipush 8, 2) := by decide +kernel
theorem dX8_head_96 : decode cX8_head 96 = .ok (.istore 5, 2) := by decide +kernel
theorem dX8_head_98 : decode cX8_head 98 = .ok (.iload 5, 2) := by decide +kernel
theorem dX8_head_100 : decode cX8_head 100 = .ok (.bipush 16, 2) := by decide +kernel
theorem dX8_head_102 : decode cX8_head 102 = .ok (.if_icmp .ge 25, 3) := by decide +kernel
theorem dX8_head_105 : decode cX8_head 105 = .ok (.sipush 256, 3) := by decide +kernel
theorem dX8_head_108 : decode cX8_head 108 = .ok (.iload 4, 2) := by decide +kernel
theorem dX8_head_110 : decode cX8_head 110 = .ok (.imul, 1) := by decide +kernel
theorem dX8_head_111 : decode cX8_head 111 = .ok (.aload_n 0, 1) := by decide +kernel
theorem dX8_head_112 : decode cX8_head 112 = .ok (.getfield 13, 3) := by decide +kernel
theorem dX8_head_115 : decode cX8_head 115 = .ok (.iload 5, 2) := by decide +kernel
theorem dX8_head_117 : decode cX8_head 117 = .ok (.iaload, 1) := by decide +kernel
theorem dX8_head_118 : decode cX8_head 118 = .ok (.iadd, 1) := by decide +kernel
theorem dX8_head_119 : decode cX8_head 119 = .ok (.istore 4, 2) := by decide +kernel
theorem dX8_head_121 : decode cX8_head 121 = .ok (.iinc 5 1, 3) := by decide +kernel
theorem dX8_head_124 : decode cX8_head 124 = .ok (.goto (-26), 3) := by decide +kernel
theorem dX8_head_127 : decode cX8_head 127 = .ok (.iload 4, 2) := by decide +kernel
theorem dX8_head_129 : decode cX8_head 129 = .ok (.ireturn, 1) := by decide +kernel
theorem dX8_entry_0 : decode cX8_entry 0 = .ok (.aload_n 0, 1) := by decide +kernel
theorem dX8_entry_1 : decode cX8_entry 1 = .ok (.iload_n 1, 1) := by decide +kernel
theorem dX8_entry_2 : decode cX8_entry 2 = .ok (.invokestatic 204, 3) := by decide +kernel
theorem dX8_entry_5 : decode cX8_entry 5 = .ok (.ifCond .ne 7, 3) := by decide +kernel
theorem dX8_entry_8 : decode cX8_entry 8 = .ok (.iconst 1, 1) := by decide +kernel
theorem dX8_entry_9 : decode cX8_entry 9 = .ok (.goto 22, 3) := by decide +kernel
theorem dX8_entry_12 : decode cX8_entry 12 = .ok (.iload_n 2, 1) := by decide +kernel
theorem dX8_entry_13 : decode cX8_entry 13 = .ok (.ifCond .lt 13, 3) := by decide +kernel
theorem dX8_entry_16 : decode cX8_entry 16 = .ok (.iload_n 2, 1) := by decide +kernel
theorem dX8_entry_17 : decode cX8_entry 17 = .ok (.aload_n 0, 1) := by decide +kernel
theorem dX8_entry_18 : decode cX8_entry 18 = .ok (.getfield 29, 3) := by decide +kernel
theorem dX8_entry_21 : decode cX8_entry 21 = .ok (.iload_n 1, 1) := by decide +kernel
theorem dX8_entry_22 : decode cX8_entry 22 = .ok (.iaload, 1) := by decide +kernel
theorem dX8_entry_23 : decode cX8_entry 23 = .ok (.if_icmp .lt 7, 3) := by decide +kernel
theorem dX8_entry_26 : decode cX8_entry 26 = .ok (.iconst 2, 1) := by decide +kernel
theorem dX8_entry_27 : decode cX8_entry 27 = .ok (.goto 4, 3) := by decide +kernel
theorem dX8_entry_30 : decode cX8_entry 30 = .ok (.iconst 0, 1) := by decide +kernel
theorem dX8_entry_31 : decode cX8_entry 31 = .ok (.putfield 134, 3) := by decide +kernel
theorem dX8_entry_34 : decode cX8_entry 34 = .ok (.aload_n 0, 1) := by decide +kernel
theorem dX8_entry_35 : decode cX8_entry 35 = .ok (.getfield 134, 3) := by decide +kernel
theorem dX8_entry_38 : decode cX8_entry 38 = .ok (.ifCond .le 5, 3) := by decide +kernel
theorem dX8_entry_41 : decode cX8_entry 41 = .ok (.iconst 0, 1) := by decide +kernel
theorem dX8_entry_42 : decode cX8_entry 42 = .ok (.ireturn, 1) := by decide +kernel
theorem dX8_entry_43 : decode cX8_entry 43 = .ok (.sipush 200, 3) := by decide +kernel
theorem dX8_entry_46 : decode cX8_entry 46 = .ok (.iload_n 1, 1) := by decide +kernel
theorem dX8_entry_47 : decode cX8_entry 47 = .ok (.imul, 1) := by decide +kernel
theorem dX8_entry_48 : decode cX8_entry 48 = .ok (.iload_n 2, 1) := by decide +kernel
theorem dX8_entry_49 : decode cX8_entry 49 = .ok (.iadd, 1) := by decide +kernel
theorem dX8_entry_50 : decode cX8_entry 50 = .ok (.istore_n 3, 1) := by decide +kernel
theorem dX8_entry_51 : decode cX8_entry 51 = .ok (.aload_n 0, 1) := by decide +kernel
theorem dX8_entry_52 : decode cX8_entry 52 = .ok (.aload_n 0, 1) := by decide +kernel
theorem dX8_entry_53 : decode cX8_entry 53 = .ok (.getfield 26, 3) := by decide +kernel
theorem dX8_entry_56 : decode cX8_entry 56 = .ok (.iload_n 3, 1) := by decide +kernel
theorem dX8_entry_57 : decode cX8_entry 57 = .ok (.iaload, 1) := by decide +kernel
theorem dX8_entry_58 : decode cX8_entry 58 = .ok (.putfield 145, 3) := by decide +kernel
theorem dX8_entry_61 : decode cX8_entry 61 = .ok (.iconst 0, 1) := by decide +kernel
theorem dX8_entry_62 : decode cX8_entry 62 = .ok (.istore 4, 2) := by decide +kernel
theorem dX8_entry_64 : decode cX8_entry 64 = .ok (.iload 4, 2) := by decide +kernel
theorem dX8_entry_66 : decode cX8_entry 66 = .ok (.aload_n 0, 1) := by decide +kernel

theorem dX7_out_8 : decode cX7_out 8 = .ok (.ireturn, 1) := by decide +kernel
theorem dX7_outs_0 : decode cX7_outs 0 = .ok (.aload_n 0, 1) := by decide +kernel
theorem dX7_outs_1 : decode cX7_outs 1 = .ok (.getfield 18, 3) := by decide +kernel
theorem dX7_outs_4 : decode cX7_outs 4 = .ok (.getfield 57, 3) := by decide +kernel
theorem dX7_outs_7 : decode cX7_outs 7 = .ok (.ireturn, 1) := by decide +kernel
theorem dX7_key_0 : decode cX7_key 0 = .ok (.aload_n 0, 1) := by decide +kernel
theorem dX7_key_1 : decode cX7_key 1 = .ok (.getfield 14, 3) := by decide +kernel
theorem dX7_key_4 : decode cX7_key 4 = .ok (.invokevirtual 73, 3) := by decide +kernel
theorem dX7_key_7 : decode cX7_key 7 = .ok (.istore_n 2, 1) := by decide +kernel
theorem dX7_key_8 : decode cX7_key 8 = .ok (.aload_n 0, 1) := by decide +kernel
theorem dX7_key_9 : decode cX7_key 9 = .ok (.iload_n 1, 1) := by decide +kernel
theorem dX7_key_10 : decode cX7_key 10 = .ok (.invokevirtual 76, 3) := by decide +kernel
theorem dX7_key_13 : decode cX7_key 13 = .ok (.astore_n 3, 1) := by decide +kernel
theorem dX7_key_14 : decode cX7_key 14 = .ok (.iload_n 2, 1) := by decide +kernel
theorem dX7_key_15 : decode cX7_key 15 = .ok (.bipush 100, 2) := by decide +kernel
theorem dX7_key_17 : decode cX7_key 17 = .ok (.if_icmp .le 13, 3) := by decide +kernel
theorem dX7_key_20 : decode cX7_key 20 = .ok (.new 80, 3) := by decide +kernel
theorem dX7_key_23 : decode cX7_key 23 = .ok (.dup, 1) := by decide +kernel
theorem dX7_key_24 : decode cX7_key 24 = .ok (.ldc 82, 2) := by decide +kernel
theorem dX7_key_26 : decode cX7_key 26 = .ok (.invokespecial 84, 3) := by decide +kernel
theorem dX7_key_29 : decode cX7_key 29 = .ok (.athrow, 1) := by decide +kernel
theorem dX7_key_30 : decode cX7_key 30 = .ok (.aload_n 3, 1) := by decide +kernel
theorem dX7_key_31 : decode cX7_key 31 = .ok (.getfield 87, 3) := by decide +kernel
theorem dX7_key_34 : decode cX7_key 34 = .ok (.ifCond .le 13, 3) := by decide +kernel
theorem dX7_key_37 : decode cX7_key 37 = .ok (.new 90, 3) := by decide +kernel
theorem dX7_key_40 : decode cX7_key 40 = .ok (.dup, 1) := by decide +kernel
theorem dX7_key_41 : decode cX7_key 41 = .ok (.ldc 92, 2) := by decide +kernel
theorem dX7_key_43 : decode cX7_key 43 = .ok (.invokespecial 94, 3) := by decide +kernel
theorem dX7_key_46 : decode cX7_key 46 = .ok (.athrow, 1) := by decide +kernel
theorem dX7_key_47 : decode cX7_key 47 = .ok (.aload_n 3, 1) := by decide +kernel
theorem dX7_key_48 : decode cX7_key 48 = .ok (.aload_n 0, 1) := by decide +kernel
theorem dX7_key_49 : decode cX7_key 49 = .ok (.getfield 14, 3) := by decide +kernel
theorem dX7_key_52 : decode cX7_key 52 = .ok (.getfield 61, 3) := by decide +kernel
theorem dX7_key_55 : decode cX7_key 55 = .ok (.iload_n 2, 1) := by decide +kernel
theorem dX7_key_56 : decode cX7_key 56 = .ok (.invokevirtual 95, 3) := by decide +kernel
theorem dX7_key_59 : decode cX7_key 59 = .ok (.iload_n 2, 1) := by decide +kernel
theorem dX7_key_60 : decode cX7_key 60 = .ok (.ireturn, 1) := by decide +kernel
theorem dX7_submit_0 : decode cX7_submit 0 = .ok (.aload_n 0, 1) := by decide +kernel
theorem dX7_submit_1 : decode cX7_submit 1 = .ok (.getfield 14, 3) := by decide +kernel
theorem dX7_submit_4 : decode cX7_submit 4 = .ok (.invokevirtual 73, 3) := by decide +kernel
theorem dX7_submit_7 : decode cX7_submit 7 = .ok (.istore_n 2, 1) := by decide +kernel
theorem dX7_submit_8 : decode cX7_submit 8 = .ok (.aload_n 0, 1) := by decide +kernel
theorem dX7_submit_9 : decode cX7_submit 9 = .ok (.iload_n 1, 1) := by decide +kernel
theorem dX7_submit_10 : decode cX7_submit 10 = .ok (.invokevirtual 76, 3) := by decide +kernel
theorem dX7_submit_13 : decode cX7_submit 13 = .ok (.astore_n 3, 1) := by decide +kernel
theorem dX7_submit_14 : decode cX7_submit 14 = .ok (.iload_n 2, 1) := by decide +kernel
theorem dX7_submit_15 : decode cX7_submit 15 = .ok (.bipush 120, 2) := by decide +kernel
theorem dX7_submit_17 : decode cX7_submit 17 = .ok (.if_icmp .le 13, 3) := by decide +kernel
theorem dX7_submit_20 : decode cX7_submit 20 = .ok (.new 80, 3) := by decide +kernel
theorem dX7_submit_23 : decode cX7_submit 23 = .ok (.dup, 1) := by decide +kernel
theorem dX7_submit_24 : decode cX7_submit 24 = .ok (.ldc 99, 2) := by decide +kernel
theorem dX7_submit_26 : decode cX7_submit 26 = .ok (.invokespecial 84, 3) := by decide +kernel
theorem dX7_submit_29 : decode cX7_submit 29 = .ok (.athrow, 1) := by decide +kernel
theorem dX7_submit_30 : decode cX7_submit 30 = .ok (.aload_n 3, 1) := by decide +kernel
theorem dX7_submit_31 : decode cX7_submit 31 = .ok (.aload_n 0, 1) := by decide +kernel
theorem dX7_submit_32 : decode cX7_submit 32 = .ok (.getfield 14, 3) := by decide +kernel
theorem dX7_submit_35 : decode cX7_submit 35 = .ok (.getfield 61, 3) := by decide +kernel
theorem dX7_submit_38 : decode cX7_submit 38 = .ok (.iload_n 2, 1) := by decide +kernel
theorem dX7_submit_39 : decode cX7_submit 39 = .ok (.invokevirtual 101, 3) := by decide +kernel
theorem dX7_submit_42 : decode cX7_submit 42 = .ok (.istore 4, 2) := by decide +kernel
theorem dX7_submit_44 : decode cX7_submit 44 = .ok (.iload 4, 2) := by decide +kernel
theorem dX7_submit_46 : decode cX7_submit 46 = .ok (.iconst (-1), 1) := by decide +kernel
theorem dX7_submit_47 : decode cX7_submit 47 = .ok (.if_icmp .eq 6, 3) := by decide +kernel
theorem dX7_submit_50 : decode cX7_submit 50 = .ok (.iload 4, 2) := by decide +kernel
theorem dX7_submit_52 : decode cX7_submit 52 = .ok (.ireturn, 1) := by decide +kernel
theorem dX7_submit_53 : decode cX7_submit 53 = .ok (.aload_n 3, 1) := by decide +kernel
theorem dX7_submit_54 : decode cX7_submit 54 = .ok (.getfield 105, 3) := by decide +kernel
theorem dX7_submit_57 : decode cX7_submit 57 = .ok (.sipush 200, 3) := by decide +kernel
theorem dX7_submit_60 : decode cX7_submit 60 = .ok (.if_icmp .lt 13, 3) := by decide +kernel
theorem dX7_submit_63 : decode cX7_submit 63 = .ok (.new 90, 3) := by decide +kernel
theorem dX7_submit_66 : decode cX7_submit 66 = .ok (.dup, 1) := by decide +kernel
theorem dX7_submit_67 : decode cX7_submit 67 = .ok (.ldc 108, 2) := by decide +kernel
theorem dX7_submit_69 : decode cX7_submit 69 = .ok (.invokespecial 94, 3) := by decide +kernel
theorem dX7_submit_72 : decode cX7_submit 72 = .ok (.athrow, 1) := by decide +kernel
theorem dX7_submit_73 : decode cX7_submit 73 = .ok (.aload_n 3, 1) := by decide +kernel
theorem dX7_submit_74 : decode cX7_submit 74 = .ok (.aload_n 0, 1) := by decide +kernel
theorem dX7_submit_75 : decode cX7_submit 75 = .ok (.getfield 14, 3) := by decide +kernel
theorem dX7_submit_78 : decode cX7_submit 78 = .ok (.getfield 61, 3) := by decide +kernel
theorem dX7_submit_81 : decode cX7_submit 81 = .ok (.iload_n 2, 1) := by decide +kernel
theorem dX7_submit_82 : decode cX7_submit 82 = .ok (.invokevirtual 110, 3) := by decide +kernel
theorem dX7_submit_85 : decode cX7_submit 85 = .ok (.ireturn, 1) := by decide +kernel
theorem dX7_cut_0 : decode cX7_cut 0 = .ok (.aload_n 0, 1) := by decide +kernel
theorem dX7_cut_1 : decode cX7_cut 1 = .ok (.iload_n 1, 1) := by decide +kernel
theorem dX7_cut_2 : decode cX7_cut 2 = .ok (.invokevirtual 76, 3) := by decide +kernel
theorem dX7_cut_5 : decode cX7_cut 5 = .ok (.astore 4, 2) := by decide +kernel
theorem dX7_cut_7 : decode cX7_cut 7 = .ok (.lload_n 2, 1) := by decide +kernel
theorem dX7_cut_8 : decode cX7_cut 8 = .ok (.lconst 0, 1) := by decide +kernel
theorem dX7_cut_9 : decode cX7_cut 9 = .ok (.lcmp, 1) := by decide +kernel
theorem dX7_cut_10 : decode cX7_cut 10 = .ok (.ifCond .lt 13, 3) := by decide +kernel
theorem dX7_cut_13 : decode cX7_cut 13 = .ok (.lload_n 2, 1) := by decide +kernel
theorem dX7_cut_14 : decode cX7_cut 14 = .ok (.aload 4, 2) := by decide +kernel
theorem dX7_cut_16 : decode cX7_cut 16 = .ok (.invokevirtual 113, 3) := by decide +kernel
theorem dX7_cut_19 : decode cX7_cut 19 = .ok (.lcmp, 1) := by decide +kernel
theorem dX7_cut_20 : decode cX7_cut 20 = .ok (.ifCond .ge 13, 3) := by decide +kernel
theorem dX7_cut_23 : decode cX7_cut 23 = .ok (.new 80, 3) := by decide +kernel
theorem dX7_cut_26 : decode cX7_cut 26 = .ok (.dup, 1) := by decide +kernel
theorem dX7_cut_27 : decode cX7_cut 27 = .ok (.ldc 117, 2) := by decide +kernel
theorem dX7_cut_29 : decode cX7_cut 29 = .ok (.invokespecial 84, 3) := by decide +kernel
theorem dX7_cut_32 : decode cX7_cut 32 = .ok (.athrow, 1) := by decide +kernel
theorem dX7_cut_33 : decode cX7_cut 33 = .ok (.aload 4, 2) := by decide +kernel
theorem dX7_cut_35 : decode cX7_cut 35 = .ok (.getfield 87, 3) := by decide +kernel
theorem dX7_cut_38 : decode cX7_cut 38 = .ok (.bipush 40, 2) := by decide +kernel
theorem dX7_cut_40 : decode cX7_cut 40 = .ok (.if_icmp .lt 13, 3) := by decide +kernel
theorem dX7_cut_43 : decode cX7_cut 43 = .ok (.new 90, 3) := by decide +kernel
theorem dX7_cut_46 : decode cX7_cut 46 = .ok (.dup, 1) := by decide +kernel
theorem dX7_cut_47 : decode cX7_cut 47 = .ok (.ldc 119, 2) := by decide +kernel
theorem dX7_cut_49 : decode cX7_cut 49 = .ok (.invokespecial 94, 3) := by decide +kernel
theorem dX7_cut_52 : decode cX7_cut 52 = .ok (.athrow, 1) := by decide +kernel
theorem dX7_cut_53 : decode cX7_cut 53 = .ok (.aload 4, 2) := by decide +kernel
theorem dX7_cut_55 : decode cX7_cut 55 = .ok (.lload_n 2, 1) := by decide +kernel
theorem dX7_cut_56 : decode cX7_cut 56 = .ok (.invokevirtual 121, 3) := by decide +kernel
theorem dX7_cut_59 : decode cX7_cut 59 = .ok (.ireturn, 1) := by decide +kernel
theorem dX7_size_0 : decode cX7_size 0 = .ok (.aload_n 0, 1) := by decide +kernel
theorem dX7_size_1 : decode cX7_size 1 = .ok (.iload_n 1, 1) := by decide +kernel
theorem dX7_size_2 : decode cX7_size 2 = .ok (.invokevirtual 76, 3) := by decide +kernel
theorem dX7_size_5 : decode cX7_size 5 = .ok (.astore_n 3, 1) := by decide +kernel
theorem dX7_size_6 : decode cX7_size 6 = .ok (.iload_n 2, 1) := by decide +kernel
theorem dX7_size_7 : decode cX7_size 7 = .ok (.tableswitch 49 0 3 #[29, 34, 39, 44], 29) := by decide +kernel
theorem dX7_size_36 : decode cX7_size 36 = .ok (.aload_n 3, 1) := by decide +kernel
theorem dX7_size_37 : decode cX7_size 37 = .ok (.getfield 105, 3) := by decide +kernel
theorem dX7_size_40 : decode cX7_size 40 = .ok (.ireturn, 1) := by decide +kernel
theorem dX7_size_41 : decode cX7_size 41 = .ok (.aload_n 3, 1) := by decide +kernel
theorem dX7_size_42 : decode cX7_size 42 = .ok (.getfield 125, 3) := by decide +kernel
theorem dX7_size_45 : decode cX7_size 45 = .ok (.ireturn, 1) := by decide +kernel
theorem dX7_size_46 : decode cX7_size 46 = .ok (.aload_n 3, 1) := by decide +kernel
theorem dX7_size_47 : decode cX7_size 47 = .ok (.getfield 87, 3) := by decide +kernel
theorem dX7_size_50 : decode cX7_size 50 = .ok (.ireturn, 1) := by decide +kernel
theorem dX7_size_51 : decode cX7_size 51 = .ok (.aload_n 3, 1) := by decide +kernel
theorem dX7_size_52 : decode cX7_size 52 = .ok (.getfield 128, 3) := by decide +kernel
theorem dX7_size_55 : decode cX7_size 55 = .ok (.ireturn, 1) := by decide +kernel
theorem dX7_size_56 : decode cX7_size 56 = .ok (.new 131, 3) := by decide +kernel
theorem dX7_size_59 : decode cX7_size 59 = .ok (.dup, 1) := by decide +kernel
theorem dX7_size_60 : decode cX7_size 60 = .ok (.ldc 133, 2) := by decide +kernel
theorem dX7_size_62 : decode cX7_size 62 = .ok (.invokespecial 135, 3) := by decide +kernel
theorem dX7_size_65 : decode cX7_size 65 = .ok (.athrow, 1) := by decide +kernel
theorem dX7_head_0 : decode cX7_head 0 = .ok (.aload_n 0, 1) := by decide +kernel
theorem dX7_head_1 : decode cX7_head 1 = .ok (.iload_n 1, 1) := by decide +kernel
theorem dX7_head_2 : decode cX7_head 2 = .ok (.invokevirtual 76, 3) := by decide +kernel
theorem dX7_head_5 : decode cX7_head 5 = .ok (.iload_n 2, 1) := by decide +kernel
theorem dX7_head_6 : decode cX7_head 6 = .ok (.invokevirtual 136, 3) := by decide +kernel
theorem dX7_head_9 : decode cX7_head 9 = .ok (.astore_n 3, 1) := by decide +kernel
theorem dX7_head_10 : decode cX7_head 10 = .ok (.aload_n 3, 1) := by decide +kernel
theorem dX7_head_11 : decode cX7_head 11 = .ok (.ifnonnull 13, 3) := by decide +kernel
theorem dX7_head_14 : decode cX7_head 14 = .ok (.new 131, 3) := by decide +kernel
theorem dX7_head_17 : decode cX7_head 17 = .ok (.dup, 1) := by decide +kernel
theorem dX7_head_18 : decode cX7_head 18 = .ok (.ldc 140, 2) := by decide +kernel
theorem dX7_head_20 : decode cX7_head 20 = .ok (.invokespecial 135, 3) := by decide +kernel
theorem dX7_head_23 : decode cX7_head 23 = .ok (.athrow, 1) := by decide +kernel
theorem dX7_head_24 : decode cX7_head 24 = .ok (.aload_n 0, 1) := by decide +kernel
theorem dX7_head_25 : decode cX7_head 25 = .ok (.getfield 18, 3) := by decide +kernel
theorem dX7_head_28 : decode cX7_head 28 = .ok (.aload_n 3, 1) := by decide +kernel
theorem dX7_head_29 : decode cX7_head 29 = .ok (.getfield 142, 3) := by decide +kernel
theorem dX7_head_32 : decode cX7_head 32 = .ok (.aload_n 3, 1) := by decide +kernel
theorem dX7_head_33 : decode cX7_head 33 = .ok (.getfield 142, 3) := by decide +kernel
theorem dX7_head_36 : decode cX7_head 36 = .ok (.arraylength, 1) := by decide +kernel
theorem dX7_head_37 : decode cX7_head 37 = .ok (.invokevirtual 145, 3) := by decide +kernel
theorem dX7_head_40 : decode cX7_head 40 = .ok (.aload_n 3, 1) := by decide +kernel
theorem dX7_head_41 : decode cX7_head 41 = .ok (.bipush 8, 2) := by decide +kernel
theorem dX7_head_43 : decode cX7_head 43 = .ok (.invokevirtual 148, 3) := by decide +kernel
theorem dX7_head_46 : decode cX7_head 46 = .ok (.l2i, 1) := by decide +kernel
theorem dX7_head_47 : decode cX7_head 47 = .ok (.ireturn, 1) := by decide +kernel
theorem dX7_entry_0 : decode cX7_entry 0 = .ok (.aload_n 0, 1) := by decide +kernel
theorem dX7_entry_1 : decode cX7_entry 1 = .ok (.iload_n 1, 1) := by decide +kernel
theorem dX7_entry_2 : decode cX7_entry 2 = .ok (.invokevirtual 76, 3) := by decide +kernel
theorem dX7_entry_5 : decode cX7_entry 5 = .ok (.iload_n 2, 1) := by decide +kernel
theorem dX7_entry_6 : decode cX7_entry 6 = .ok (.invokevirtual 152, 3) := by decide +kernel
theorem dX7_entry_9 : decode cX7_entry 9 = .ok (.astore_n 3, 1) := by decide +kernel
theorem dX7_entry_10 : decode cX7_entry 10 = .ok (.aload_n 3, 1) := by decide +kernel
theorem dX7_entry_11 : decode cX7_entry 11 = .ok (.ifnonnull 13, 3) := by decide +kernel
theorem dX7_entry_14 : decode cX7_entry 14 = .ok (.new 131, 3) := by decide +kernel
theorem dX7_entry_17 : decode cX7_entry 17 = .ok (.dup, 1) := by decide +kernel
theorem dX7_entry_18 : decode cX7_entry 18 = .ok (.ldc 155, 2) := by decide +kernel
theorem dX7_entry_20 : decode cX7_entry 20 = .ok (.invokespecial 135, 3) := by decide +kernel
theorem dX7_entry_23 : decode cX7_entry 23 = .ok (.athrow, 1) := by decide +kernel
theorem dX7_entry_24 : decode cX7_entry 24 = .ok (.aload_n 0, 1) := by decide +kernel
theorem dX7_entry_25 : decode cX7_entry 25 = .ok (.getfield 18, 3) := by decide +kernel
theorem dX7_entry_28 : decode cX7_entry 28 = .ok (.aload_n 3, 1) := by decide +kernel
theorem dX7_entry_29 : decode cX7_entry 29 = .ok (.getfield 142, 3) := by decide +kernel
theorem dX7_entry_32 : decode cX7_entry 32 = .ok (.aload_n 3, 1) := by decide +kernel
theorem dX7_entry_33 : decode cX7_entry 33 = .ok (.getfield 142, 3) := by decide +kernel
theorem dX7_entry_36 : decode cX7_entry 36 = .ok (.arraylength, 1) := by decide +kernel
theorem dX7_entry_37 : decode cX7_entry 37 = .ok (.invokevirtual 145, 3) := by decide +kernel
theorem dX7_entry_40 : decode cX7_entry 40 = .ok (.aload_n 3, 1) := by decide +kernel
theorem dX7_entry_41 : decode cX7_entry 41 = .ok (.getfield 142, 3) := by decide +kernel
theorem dX7_entry_44 : decode cX7_entry 44 = .ok (.arraylength, 1) := by decide +kernel
theorem dX7_entry_45 : decode cX7_entry 45 = .ok (.ireturn, 1) := by decide +kernel
theorem dX7_leaf_0 : decode cX7_leaf 0 = .ok (.aload_n 0, 1) := by decide +kernel
theorem dX7_leaf_1 : decode cX7_leaf 1 = .ok (.iload_n 1, 1) := by decide +kernel
theorem dX7_leaf_2 : decode cX7_leaf 2 = .ok (.invokevirtual 76, 3) := by decide +kernel
theorem dX7_leaf_5 : decode cX7_leaf 5 = .ok (.astore_n 3, 1) := by decide +kernel
theorem dX7_leaf_6 : decode cX7_leaf 6 = .ok (.iload_n 2, 1) := by decide +kernel
theorem dX7_leaf_7 : decode cX7_leaf 7 = .ok (.ifCond .lt 11, 3) := by decide +kernel
theorem dX7_leaf_10 : decode cX7_leaf 10 = .ok (.iload_n 2, 1) := by decide +kernel
theorem dX7_leaf_11 : decode cX7_leaf 11 = .ok (.aload_n 3, 1) := by decide +kernel
theorem dX7_leaf_12 : decode cX7_leaf 12 = .ok (.getfield 105, 3) := by decide +kernel
theorem dX7_leaf_15 : decode cX7_leaf 15 = .ok (.if_icmp .lt 13, 3) := by decide +kernel
theorem dX7_leaf_18 : decode cX7_leaf 18 = .ok (.new 131, 3) := by decide +kernel
theorem dX7_leaf_21 : decode cX7_leaf 21 = .ok (.dup, 1) := by decide +kernel
theorem dX7_leaf_22 : decode cX7_leaf 22 = .ok (.ldc 155, 2) := by decide +kernel
theorem dX7_leaf_24 : decode cX7_leaf 24 = .ok (.invokespecial 135, 3) := by decide +kernel
theorem dX7_leaf_27 : decode cX7_leaf 27 = .ok (.athrow, 1) := by decide +kernel
theorem dX7_leaf_28 : decode cX7_leaf 28 = .ok (.aload_n 0, 1) := by decide +kernel
theorem dX7_leaf_29 : decode cX7_leaf 29 = .ok (.getfield 18, 3) := by decide +kernel
theorem dX7_leaf_32 : decode cX7_leaf 32 = .ok (.aload_n 3, 1) := by decide +kernel
theorem dX7_leaf_33 : decode cX7_leaf 33 = .ok (.iload_n 2, 1) := by decide +kernel
theorem dX7_leaf_34 : decode cX7_leaf 34 = .ok (.invokevirtual 157, 3) := by decide +kernel
theorem dX7_leaf_37 : decode cX7_leaf 37 = .ok (.bipush 32, 2) := by decide +kernel
theorem dX7_leaf_39 : decode cX7_leaf 39 = .ok (.invokevirtual 145, 3) := by decide +kernel
theorem dX7_leaf_42 : decode cX7_leaf 42 = .ok (.iload_n 2, 1) := by decide +kernel
theorem dX7_leaf_43 : decode cX7_leaf 43 = .ok (.aload_n 3, 1) := by decide +kernel
theorem dX7_leaf_44 : decode cX7_leaf 44 = .ok (.getfield 125, 3) := by decide +kernel
theorem dX7_leaf_47 : decode cX7_leaf 47 = .ok (.if_icmp .ge 7, 3) := by decide +kernel
theorem dX7_leaf_50 : decode cX7_leaf 50 = .ok (.iconst 1, 1) := by decide +kernel
theorem dX7_leaf_51 : decode cX7_leaf 51 = .ok (.goto 4, 3) := by decide +kernel
theorem dX7_leaf_54 : decode cX7_leaf 54 = .ok (.iconst 0, 1) := by decide +kernel
theorem dX7_leaf_55 : decode cX7_leaf 55 = .ok (.ireturn, 1) := by decide +kernel
theorem dX7_find_0 : decode cX7_find 0 = .ok (.aload_n 0, 1) := by decide +kernel
theorem dX7_find_1 : decode cX7_find 1 = .ok (.getfield 14, 3) := by decide +kernel
theorem dX7_find_4 : decode cX7_find 4 = .ok (.invokevirtual 73, 3) := by decide +kernel
theorem dX7_find_7 : decode cX7_find 7 = .ok (.istore_n 2, 1) := by decide +kernel
theorem dX7_find_8 : decode cX7_find 8 = .ok (.aload_n 0, 1) := by decide +kernel
theorem dX7_find_9 : decode cX7_find 9 = .ok (.iload_n 1, 1) := by decide +kernel
theorem dX7_find_10 : decode cX7_find 10 = .ok (.invokevirtual 76, 3) := by decide +kernel
theorem dX7_find_13 : decode cX7_find 13 = .ok (.astore_n 3, 1) := by decide +kernel
theorem dX7_find_14 : decode cX7_find 14 = .ok (.iload_n 2, 1) := by decide +kernel
theorem dX7_find_15 : decode cX7_find 15 = .ok (.bipush 32, 2) := by decide +kernel
theorem dX7_find_17 : decode cX7_find 17 = .ok (.if_icmp .eq 13, 3) := by decide +kernel
theorem dX7_find_20 : decode cX7_find 20 = .ok (.new 80, 3) := by decide +kernel
theorem dX7_find_23 : decode cX7_find 23 = .ok (.dup, 1) := by decide +kernel
theorem dX7_find_24 : decode cX7_find 24 = .ok (.ldc 161, 2) := by decide +kernel
theorem dX7_find_26 : decode cX7_find 26 = .ok (.invokespecial 84, 3) := by decide +kernel
theorem dX7_find_29 : decode cX7_find 29 = .ok (.athrow, 1) := by decide +kernel
theorem dX7_find_30 : decode cX7_find 30 = .ok (.aload_n 3, 1) := by decide +kernel
theorem dX7_find_31 : decode cX7_find 31 = .ok (.aload_n 0, 1) := by decide +kernel
theorem dX7_find_32 : decode cX7_find 32 = .ok (.getfield 14, 3) := by decide +kernel
theorem dX7_find_35 : decode cX7_find 35 = .ok (.getfield 61, 3) := by decide +kernel
theorem dX7_find_38 : decode cX7_find 38 = .ok (.invokevirtual 163, 3) := by decide +kernel
theorem dX7_find_41 : decode cX7_find 41 = .ok (.ireturn, 1) := by decide +kernel
theorem dX7_root_0 : decode cX7_root 0 = .ok (.aload_n 0, 1) := by decide +kernel
theorem dX7_root_1 : decode cX7_root 1 = .ok (.iload_n 1, 1) := by decide +kernel
theorem dX7_root_2 : decode cX7_root 2 = .ok (.invokevirtual 76, 3) := by decide +kernel
theorem dX7_root_5 : decode cX7_root 5 = .ok (.astore_n 3, 1) := by decide +kernel
theorem dX7_root_6 : decode cX7_root 6 = .ok (.iload_n 2, 1) := by decide +kernel
theorem dX7_root_7 : decode cX7_root 7 = .ok (.ifCond .lt 11, 3) := by decide +kernel
theorem dX7_root_10 : decode cX7_root 10 = .ok (.iload_n 2, 1) := by decide +kernel
theorem dX7_root_11 : decode cX7_root 11 = .ok (.aload_n 3, 1) := by decide +kernel
theorem dX7_root_12 : decode cX7_root 12 = .ok (.getfield 125, 3) := by decide +kernel
theorem dX7_root_15 : decode cX7_root 15 = .ok (.if_icmp .le 13, 3) := by decide +kernel
theorem dX7_root_18 : decode cX7_root 18 = .ok (.new 131, 3) := by decide +kernel
theorem dX7_root_21 : decode cX7_root 21 = .ok (.dup, 1) := by decide +kernel
theorem dX7_root_22 : decode cX7_root 22 = .ok (.ldc 167, 2) := by decide +kernel
theorem dX7_root_24 : decode cX7_root 24 = .ok (.invokespecial 135, 3) := by decide +kernel
theorem dX7_root_27 : decode cX7_root 27 = .ok (.athrow, 1) := by decide +kernel
theorem dX7_root_28 : decode cX7_root 28 = .ok (.aload_n 0, 1) := by decide +kernel
theorem dX7_root_29 : decode cX7_root 29 = .ok (.getfield 18, 3) := by decide +kernel
theorem dX7_root_32 : decode cX7_root 32 = .ok (.aload_n 3, 1) := by decide +kernel
theorem dX7_root_33 : decode cX7_root 33 = .ok (.iconst 0, 1) := by decide +kernel
theorem dX7_root_34 : decode cX7_root 34 = .ok (.iload_n 2, 1) := by decide +kernel
theorem dX7_root_35 : decode cX7_root 35 = .ok (.invokevirtual 169, 3) := by decide +kernel
theorem dX7_root_38 : decode cX7_root 38 = .ok (.bipush 32, 2) := by decide +kernel
theorem dX7_root_40 : decode cX7_root 40 = .ok (.invokevirtual 145, 3) := by decide +kernel
theorem dX7_root_43 : decode cX7_root 43 = .ok (.iconst 1, 1) := by decide +kernel
theorem dX7_root_44 : decode cX7_root 44 = .ok (.ireturn, 1) := by decide +kernel
theorem dX7_way_0 : decode cX7_way 0 = .ok (.aload_n 0, 1) := by decide +kernel
theorem dX7_way_1 : decode cX7_way 1 = .ok (.iload_n 1, 1) := by decide +kernel
theorem dX7_way_2 : decode cX7_way 2 = .ok (.invokevirtual 76, 3) := by decide +kernel
theorem dX7_way_5 : decode cX7_way 5 = .ok (.astore 4, 2) := by decide +kernel
theorem dX7_way_7 : decode cX7_way 7 = .ok (.iload_n 2, 1) := by decide +kernel
theorem dX7_way_8 : decode cX7_way 8 = .ok (.ifCond .lt 17, 3) := by decide +kernel
theorem dX7_way_11 : decode cX7_way 11 = .ok (.iload_n 2, 1) := by decide +kernel
theorem dX7_way_12 : decode cX7_way 12 = .ok (.iload_n 3, 1) := by decide +kernel
theorem dX7_way_13 : decode cX7_way 13 = .ok (.if_icmp .ge 12, 3) := by decide +kernel
theorem dX7_way_16 : decode cX7_way 16 = .ok (.iload_n 3, 1) := by decide +kernel
theorem dX7_way_17 : decode cX7_way 17 = .ok (.aload 4, 2) := by decide +kernel
theorem dX7_way_19 : decode cX7_way 19 = .ok (.getfield 125, 3) := by decide +kernel
theorem dX7_way_22 : decode cX7_way 22 = .ok (.if_icmp .le 13, 3) := by decide +kernel
theorem dX7_way_25 : decode cX7_way 25 = .ok (.new 131, 3) := by decide +kernel
theorem dX7_way_28 : decode cX7_way 28 = .ok (.dup, 1) := by decide +kernel
theorem dX7_way_29 : decode cX7_way 29 = .ok (.ldc 173, 2) := by decide +kernel
theorem dX7_way_31 : decode cX7_way 31 = .ok (.invokespecial 135, 3) := by decide +kernel
theorem dX7_way_34 : decode cX7_way 34 = .ok (.athrow, 1) := by decide +kernel
theorem dX7_way_35 : decode cX7_way 35 = .ok (.aload_n 0, 1) := by decide +kernel
theorem dX7_way_36 : decode cX7_way 36 = .ok (.getfield 38, 3) := by decide +kernel
theorem dX7_way_39 : decode cX7_way 39 = .ok (.iload_n 2, 1) := by decide +kernel
theorem dX7_way_40 : decode cX7_way 40 = .ok (.i2l, 1) := by decide +kernel
theorem dX7_way_41 : decode cX7_way 41 = .ok (.iload_n 3, 1) := by decide +kernel
theorem dX7_way_42 : decode cX7_way 42 = .ok (.i2l, 1) := by decide +kernel
theorem dX7_way_43 : decode cX7_way 43 = .ok (.invokevirtual 175, 3) := by decide +kernel
theorem dX7_way_46 : decode cX7_way 46 = .ok (.aload 4, 2) := by decide +kernel
theorem dX7_way_48 : decode cX7_way 48 = .ok (.aload_n 0, 1) := by decide +kernel
theorem dX7_way_49 : decode cX7_way 49 = .ok (.getfield 38, 3) := by decide +kernel
theorem dX7_way_52 : decode cX7_way 52 = .ok (.aload_n 0, 1) := by decide +kernel
theorem dX7_way_53 : decode cX7_way 53 = .ok (.getfield 18, 3) := by decide +kernel
theorem dX7_way_56 : decode cX7_way 56 = .ok (.invokevirtual 179, 3) := by decide +kernel
theorem dX7_way_59 : decode cX7_way 59 = .ok (.ireturn, 1) := by decide +kernel
theorem dX7_proof_0 : decode cX7_proof 0 = .ok (.aload_n 0, 1) := by decide +kernel
theorem dX7_proof_1 : decode cX7_proof 1 = .ok (.iload_n 1, 1) := by decide +kernel
theorem dX7_proof_2 : decode cX7_proof 2 = .ok (.invokevirtual 76, 3) := by decide +kernel
theorem dX7_proof_5 : decode cX7_proof 5 = .ok (.astore 4, 2) := by decide +kernel
theorem dX7_proof_7 : decode cX7_proof 7 = .ok (.iload_n 2, 1) := by decide +kernel
theorem dX7_proof_8 : decode cX7_proof 8 = .ok (.ifCond .le 17, 3) := by decide +kernel
theorem dX7_proof_11 : decode cX7_proof 11 = .ok (.iload_n 2, 1) := by decide +kernel
theorem dX7_proof_12 : decode cX7_proof 12 = .ok (.iload_n 3, 1) := by decide +kernel
theorem dX7_proof_13 : decode cX7_proof 13 = .ok (.if_icmp .gt 12, 3) := by decide +kernel
theorem dX7_proof_16 : decode cX7_proof 16 = .ok (.iload_n 3, 1) := by decide +kernel
theorem dX7_proof_17 : decode cX7_proof 17 = .ok (.aload 4, 2) := by decide +kernel
theorem dX7_proof_19 : decode cX7_proof 19 = .ok (.getfield 125, 3) := by decide +kernel
theorem dX7_proof_22 : decode cX7_proof 22 = .ok (.if_icmp .le 13, 3) := by decide +kernel
theorem dX7_proof_25 : decode cX7_proof 25 = .ok (.new 131, 3) := by decide +kernel
theorem dX7_proof_28 : decode cX7_proof 28 = .ok (.dup, 1) := by decide +kernel
theorem dX7_proof_29 : decode cX7_proof 29 = .ok (.ldc 183, 2) := by decide +kernel
theorem dX7_proof_31 : decode cX7_proof 31 = .ok (.invokespecial 135, 3) := by decide +kernel
theorem dX7_proof_34 : decode cX7_proof 34 = .ok (.athrow, 1) := by decide +kernel
theorem dX7_proof_35 : decode cX7_proof 35 = .ok (.aload_n 0, 1) := by decide +kernel
theorem dX7_proof_36 : decode cX7_proof 36 = .ok (.getfield 38, 3) := by decide +kernel
theorem dX7_proof_39 : decode cX7_proof 39 = .ok (.iload_n 2, 1) := by decide +kernel
theorem dX7_proof_40 : decode cX7_proof 40 = .ok (.i2l, 1) := by decide +kernel
theorem dX7_proof_41 : decode cX7_proof 41 = .ok (.iload_n 3, 1) := by decide +kernel
theorem dX7_proof_42 : decode cX7_proof 42 = .ok (.i2l, 1) := by decide +kernel
theorem dX7_proof_43 : decode cX7_proof 43 = .ok (.invokevirtual 185, 3) := by decide +kernel
theorem dX7_proof_46 : decode cX7_proof 46 = .ok (.aload 4, 2) := by decide +kernel
theorem dX7_proof_48 : decode cX7_proof 48 = .ok (.aload_n 0, 1) := by decide +kernel
theorem dX7_proof_49 : decode cX7_proof 49 = .ok (.getfield 38, 3) := by decide +kernel
theorem dX7_proof_52 : decode cX7_proof 52 = .ok (.aload_n 0, 1) := by decide +kernel
theorem dX7_proof_53 : decode cX7_proof 53 = .ok (.getfield 18, 3) := by decide +kernel
theorem dX7_proof_56 : decode cX7_proof 56 = .ok (.invokevirtual 179, 3) := by decide +kernel
theorem dX7_proof_59 : decode cX7_proof 59 = .ok (.ireturn, 1) := by decide +kernel
theorem dX7_isIn_0 : decode cX7_isIn 0 = .ok (.aload_n 0, 1) := by decide +kernel
theorem dX7_isIn_1 : decode cX7_isIn 1 = .ok (.getfield 14, 3) := by decide +kernel
theorem dX7_isIn_4 : decode cX7_isIn 4 = .ok (.invokevirtual 73, 3) := by decide +kernel
theorem dX7_isIn_7 : decode cX7_isIn 7 = .ok (.istore 5, 2) := by decide +kernel
theorem dX7_isIn_9 : decode cX7_isIn 9 = .ok (.lload_n 1, 1) := by decide +kernel
theorem dX7_isIn_10 : decode cX7_isIn 10 = .ok (.lconst 0, 1) := by decide +kernel
theorem dX7_isIn_11 : decode cX7_isIn 11 = .ok (.lcmp, 1) := by decide +kernel
theorem dX7_isIn_12 : decode cX7_isIn 12 = .ok (.ifCond .lt 9, 3) := by decide +kernel
theorem dX7_isIn_15 : decode cX7_isIn 15 = .ok (.lload_n 1, 1) := by decide +kernel
theorem dX7_isIn_16 : decode cX7_isIn 16 = .ok (.lload_n 3, 1) := by decide +kernel
theorem dX7_isIn_17 : decode cX7_isIn 17 = .ok (.lcmp, 1) := by decide +kernel
theorem dX7_isIn_18 : decode cX7_isIn 18 = .ok (.ifCond .lt 5, 3) := by decide +kernel
theorem dX7_isIn_21 : decode cX7_isIn 21 = .ok (.iconst 0, 1) := by decide +kernel
theorem dX7_isIn_22 : decode cX7_isIn 22 = .ok (.ireturn, 1) := by decide +kernel
theorem dX7_isIn_23 : decode cX7_isIn 23 = .ok (.aload_n 0, 1) := by decide +kernel
theorem dX7_isIn_24 : decode cX7_isIn 24 = .ok (.getfield 38, 3) := by decide +kernel
theorem dX7_isIn_27 : decode cX7_isIn 27 = .ok (.lload_n 1, 1) := by decide +kernel
theorem dX7_isIn_28 : decode cX7_isIn 28 = .ok (.lload_n 3, 1) := by decide +kernel
theorem dX7_isIn_29 : decode cX7_isIn 29 = .ok (.invokevirtual 175, 3) := by decide +kernel
theorem dX7_isIn_32 : decode cX7_isIn 32 = .ok (.bipush 64, 2) := by decide +kernel
theorem dX7_isIn_34 : decode cX7_isIn 34 = .ok (.istore 6, 2) := by decide +kernel
theorem dX7_isIn_36 : decode cX7_isIn 36 = .ok (.iload 5, 2) := by decide +kernel
theorem dX7_isIn_38 : decode cX7_isIn 38 = .ok (.iload 6, 2) := by decide +kernel
theorem dX7_isIn_40 : decode cX7_isIn 40 = .ok (.aload_n 0, 1) := by decide +kernel
theorem dX7_isIn_41 : decode cX7_isIn 41 = .ok (.getfield 38, 3) := by decide +kernel
theorem dX7_isIn_44 : decode cX7_isIn 44 = .ok (.invokevirtual 188, 3) := by decide +kernel
theorem dX7_isIn_47 : decode cX7_isIn 47 = .ok (.bipush 32, 2) := by decide +kernel
theorem dX7_isIn_49 : decode cX7_isIn 49 = .ok (.imul, 1) := by decide +kernel
theorem dX7_isIn_50 : decode cX7_isIn 50 = .ok (.iadd, 1) := by decide +kernel
theorem dX7_isIn_51 : decode cX7_isIn 51 = .ok (.if_icmp .eq 5, 3) := by decide +kernel
theorem dX7_isIn_54 : decode cX7_isIn 54 = .ok (.iconst 0, 1) := by decide +kernel
theorem dX7_isIn_55 : decode cX7_isIn 55 = .ok (.ireturn, 1) := by decide +kernel
theorem dX7_isIn_56 : decode cX7_isIn 56 = .ok (.aload_n 0, 1) := by decide +kernel
theorem dX7_isIn_57 : decode cX7_isIn 57 = .ok (.getfield 45, 3) := by decide +kernel
theorem dX7_isIn_60 : decode cX7_isIn 60 = .ok (.aload_n 0, 1) := by decide +kernel
theorem dX7_isIn_61 : decode cX7_isIn 61 = .ok (.getfield 14, 3) := by decide +kernel
theorem dX7_isIn_64 : decode cX7_isIn 64 = .ok (.getfield 61, 3) := by decide +kernel
theorem dX7_isIn_67 : decode cX7_isIn 67 = .ok (.bipush 32, 2) := by decide +kernel
theorem dX7_isIn_69 : decode cX7_isIn 69 = .ok (.invokevirtual 191, 3) := by decide +kernel
theorem dX7_isIn_72 : decode cX7_isIn 72 = .ok (.aload_n 0, 1) := by decide +kernel
theorem dX7_isIn_73 : decode cX7_isIn 73 = .ok (.getfield 45, 3) := by decide +kernel
theorem dX7_isIn_76 : decode cX7_isIn 76 = .ok (.aload_n 0, 1) := by decide +kernel
theorem dX7_isIn_77 : decode cX7_isIn 77 = .ok (.getfield 38, 3) := by decide +kernel
theorem dX7_isIn_80 : decode cX7_isIn 80 = .ok (.aload_n 0, 1) := by decide +kernel
theorem dX7_isIn_81 : decode cX7_isIn 81 = .ok (.getfield 14, 3) := by decide +kernel
theorem dX7_isIn_84 : decode cX7_isIn 84 = .ok (.getfield 61, 3) := by decide +kernel
theorem dX7_isIn_87 : decode cX7_isIn 87 = .ok (.iload 6, 2) := by decide +kernel
theorem dX7_isIn_89 : decode cX7_isIn 89 = .ok (.invokevirtual 194, 3) := by decide +kernel
theorem dX7_isIn_92 : decode cX7_isIn 92 = .ok (.aload_n 0, 1) := by decide +kernel
theorem dX7_isIn_93 : decode cX7_isIn 93 = .ok (.getfield 45, 3) := by decide +kernel
theorem dX7_isIn_96 : decode cX7_isIn 96 = .ok (.aload_n 0, 1) := by decide +kernel
theorem dX7_isIn_97 : decode cX7_isIn 97 = .ok (.getfield 14, 3) := by decide +kernel
theorem dX7_isIn_100 : decode cX7_isIn 100 = .ok (.getfield 61, 3) := by decide +kernel
theorem dX7_isIn_103 : decode cX7_isIn 103 = .ok (.iconst 0, 1) := by decide +kernel
theorem dX7_isIn_104 : decode cX7_isIn 104 = .ok (.invokevirtual 198, 3) := by decide +kernel
theorem dX7_isIn_107 : decode cX7_isIn 107 = .ok (.ireturn, 1) := by decide +kernel
theorem dX7_isOn_0 : decode cX7_isOn 0 = .ok (.aload_n 0, 1) := by decide +kernel
theorem dX7_isOn_1 : decode cX7_isOn 1 = .ok (.getfield 14, 3) := by decide +kernel
theorem dX7_isOn_4 : decode cX7_isOn 4 = .ok (.invokevirtual 73, 3) := by decide +kernel
theorem dX7_isOn_7 : decode cX7_isOn 7 = .ok (.istore 5, 2) := by decide +kernel
theorem dX7_isOn_9 : decode cX7_isOn 9 = .ok (.lload_n 1, 1) := by decide +kernel
theorem dX7_isOn_10 : decode cX7_isOn 10 = .ok (.lconst 0, 1) := by decide +kernel
theorem dX7_isOn_11 : decode cX7_isOn 11 = .ok (.lcmp, 1) := by decide +kernel
theorem dX7_isOn_12 : decode cX7_isOn 12 = .ok (.ifCond .le 9, 3) := by decide +kernel
theorem dX7_isOn_15 : decode cX7_isOn 15 = .ok (.lload_n 1, 1) := by decide +kernel
theorem dX7_isOn_16 : decode cX7_isOn 16 = .ok (.lload_n 3, 1) := by decide +kernel
theorem dX7_isOn_17 : decode cX7_isOn 17 = .ok (.lcmp, 1) := by decide +kernel
theorem dX7_isOn_18 : decode cX7_isOn 18 = .ok (.ifCond .le 5, 3) := by decide +kernel
theorem dX7_isOn_21 : decode cX7_isOn 21 = .ok (.iconst 0, 1) := by decide +kernel
theorem dX7_isOn_22 : decode cX7_isOn 22 = .ok (.ireturn, 1) := by decide +kernel
theorem dX7_isOn_23 : decode cX7_isOn 23 = .ok (.aload_n 0, 1) := by decide +kernel
theorem dX7_isOn_24 : decode cX7_isOn 24 = .ok (.lload_n 1, 1) := by decide +kernel
theorem dX7_isOn_25 : decode cX7_isOn 25 = .ok (.lload_n 3, 1) := by decide +kernel
theorem dX7_isOn_26 : decode cX7_isOn 26 = .ok (.aload_n 0, 1) := by decide +kernel
theorem dX7_isOn_27 : decode cX7_isOn 27 = .ok (.getfield 14, 3) := by decide +kernel
theorem dX7_isOn_30 : decode cX7_isOn 30 = .ok (.getfield 61, 3) := by decide +kernel
theorem dX7_isOn_33 : decode cX7_isOn 33 = .ok (.iconst 0, 1) := by decide +kernel
theorem dX7_isOn_34 : decode cX7_isOn 34 = .ok (.bipush 32, 2) := by decide +kernel
theorem dX7_isOn_36 : decode cX7_isOn 36 = .ok (.iload 5, 2) := by decide +kernel
theorem dX7_isOn_38 : decode cX7_isOn 38 = .ok (.bipush 64, 2) := by decide +kernel
theorem dX7_isOn_40 : decode cX7_isOn 40 = .ok (.isub, 1) := by decide +kernel
theorem dX7_isOn_41 : decode cX7_isOn 41 = .ok (.bipush 64, 2) := by decide +kernel
theorem dX7_isOn_43 : decode cX7_isOn 43 = .ok (.invokevirtual 202, 3) := by decide +kernel
theorem dX7_isOn_46 : decode cX7_isOn 46 = .ok (.ireturn, 1) := by decide +kernel
theorem dX7_isSealed_0 : decode cX7_isSealed 0 = .ok (.aload_n 0, 1) := by decide +kernel
theorem dX7_isSealed_1 : decode cX7_isSealed 1 = .ok (.getfield 14, 3) := by decide +kernel
theorem dX7_isSealed_4 : decode cX7_isSealed 4 = .ok (.invokevirtual 73, 3) := by decide +kernel
theorem dX7_isSealed_7 : decode cX7_isSealed 7 = .ok (.istore_n 2, 1) := by decide +kernel
theorem dX7_isSealed_8 : decode cX7_isSealed 8 = .ok (.aload_n 0, 1) := by decide +kernel
theorem dX7_isSealed_9 : decode cX7_isSealed 9 = .ok (.iload_n 1, 1) := by decide +kernel
theorem dX7_isSealed_10 : decode cX7_isSealed 10 = .ok (.invokevirtual 76, 3) := by decide +kernel
theorem dX7_isSealed_13 : decode cX7_isSealed 13 = .ok (.astore_n 3, 1) := by decide +kernel
theorem dX7_isSealed_14 : decode cX7_isSealed 14 = .ok (.iload_n 2, 1) := by decide +kernel
theorem dX7_isSealed_15 : decode cX7_isSealed 15 = .ok (.bipush 80, 2) := by decide +kernel
theorem dX7_isSealed_17 : decode cX7_isSealed 17 = .ok (.if_icmp .eq 13, 3) := by decide +kernel
theorem dX7_isSealed_20 : decode cX7_isSealed 20 = .ok (.new 80, 3) := by decide +kernel
theorem dX7_isSealed_23 : decode cX7_isSealed 23 = .ok (.dup, 1) := by decide +kernel
theorem dX7_isSealed_24 : decode cX7_isSealed 24 = .ok (.ldc 206, 2) := by decide +kernel
theorem dX7_isSealed_26 : decode cX7_isSealed 26 = .ok (.invokespecial 84, 3) := by decide +kernel
theorem dX7_isSealed_29 : decode cX7_isSealed 29 = .ok (.athrow, 1) := by decide +kernel
theorem dX7_isSealed_30 : decode cX7_isSealed 30 = .ok (.aload_n 3, 1) := by decide +kernel
theorem dX7_isSealed_31 : decode cX7_isSealed 31 = .ok (.aload_n 0, 1) := by decide +kernel
theorem dX7_isSealed_32 : decode cX7_isSealed 32 = .ok (.getfield 14, 3) := by decide +kernel
theorem dX7_isSealed_35 : decode cX7_isSealed 35 = .ok (.getfield 61, 3) := by decide +kernel
theorem dX7_isSealed_38 : decode cX7_isSealed 38 = .ok (.invokevirtual 208, 3) := by decide +kernel
theorem dX7_isSealed_41 : decode cX7_isSealed 41 = .ok (.ireturn, 1) := by decide +kernel
theorem dX7_seal_0 : decode cX7_seal 0 = .ok (.aload_n 0, 1) := by decide +kernel
theorem dX7_seal_1 : decode cX7_seal 1 = .ok (.getfield 14, 3) := by decide +kernel
theorem dX7_seal_4 : decode cX7_seal 4 = .ok (.invokevirtual 73, 3) := by decide +kernel
theorem dX7_seal_7 : decode cX7_seal 7 = .ok (.istore_n 2, 1) := by decide +kernel
theorem dX7_seal_8 : decode cX7_seal 8 = .ok (.aload_n 0, 1) := by decide +kernel
theorem dX7_seal_9 : decode cX7_seal 9 = .ok (.iload_n 1, 1) := by decide +kernel
theorem dX7_seal_10 : decode cX7_seal 10 = .ok (.invokevirtual 76, 3) := by decide +kernel
theorem dX7_seal_13 : decode cX7_seal 13 = .ok (.astore_n 3, 1) := by decide +kernel
theorem dX7_seal_14 : decode cX7_seal 14 = .ok (.iload_n 2, 1) := by decide +kernel
theorem dX7_seal_15 : decode cX7_seal 15 = .ok (.bipush 48, 2) := by decide +kernel
theorem dX7_seal_17 : decode cX7_seal 17 = .ok (.if_icmp .eq 13, 3) := by decide +kernel
theorem dX7_seal_20 : decode cX7_seal 20 = .ok (.new 80, 3) := by decide +kernel
theorem dX7_seal_23 : decode cX7_seal 23 = .ok (.dup, 1) := by decide +kernel
theorem dX7_seal_24 : decode cX7_seal 24 = .ok (.ldc 212, 2) := by decide +kernel
theorem dX7_seal_26 : decode cX7_seal 26 = .ok (.invokespecial 84, 3) := by decide +kernel
theorem dX7_seal_29 : decode cX7_seal 29 = .ok (.athrow, 1) := by decide +kernel
theorem dX7_seal_30 : decode cX7_seal 30 = .ok (.aload_n 0, 1) := by decide +kernel
theorem dX7_seal_31 : decode cX7_seal 31 = .ok (.getfield 18, 3) := by decide +kernel
theorem dX7_seal_34 : decode cX7_seal 34 = .ok (.aload_n 0, 1) := by decide +kernel
theorem dX7_seal_35 : decode cX7_seal 35 = .ok (.getfield 14, 3) := by decide +kernel
theorem dX7_seal_38 : decode cX7_seal 38 = .ok (.getfield 61, 3) := by decide +kernel
theorem dX7_seal_41 : decode cX7_seal 41 = .ok (.bipush 48, 2) := by decide +kernel
theorem dX7_seal_43 : decode cX7_seal 43 = .ok (.invokevirtual 145, 3) := by decide +kernel
theorem dX7_seal_46 : decode cX7_seal 46 = .ok (.aload_n 0, 1) := by decide +kernel
theorem dX7_seal_47 : decode cX7_seal 47 = .ok (.getfield 18, 3) := by decide +kernel
theorem dX7_seal_50 : decode cX7_seal 50 = .ok (.aload_n 3, 1) := by decide +kernel
theorem dX7_seal_51 : decode cX7_seal 51 = .ok (.aload_n 0, 1) := by decide +kernel
theorem dX7_seal_52 : decode cX7_seal 52 = .ok (.getfield 14, 3) := by decide +kernel
theorem dX7_seal_55 : decode cX7_seal 55 = .ok (.getfield 61, 3) := by decide +kernel
theorem dX7_seal_58 : decode cX7_seal 58 = .ok (.invokevirtual 214, 3) := by decide +kernel
theorem dX7_seal_61 : decode cX7_seal 61 = .ok (.iconst 0, 1) := by decide +kernel
theorem dX7_seal_62 : decode cX7_seal 62 = .ok (.bipush 32, 2) := by decide +kernel
theorem dX7_seal_64 : decode cX7_seal 64 = .ok (.invokevirtual 65, 3) := by decide +kernel
theorem dX7_seal_67 : decode cX7_seal 67 = .ok (.iconst 1, 1) := by decide +kernel
theorem dX7_seal_68 : decode cX7_seal 68 = .ok (.ireturn, 1) := by decide +kernel
theorem dX7_follow_0 : decode cX7_follow 0 = .ok (.aload_n 0, 1) := by decide +kernel
theorem dX7_follow_1 : decode cX7_follow 1 = .ok (.getfield 14, 3) := by decide +kernel
theorem dX7_follow_4 : decode cX7_follow 4 = .ok (.invokevirtual 73, 3) := by decide +kernel
theorem dX7_follow_7 : decode cX7_follow 7 = .ok (.istore_n 3, 1) := by decide +kernel
theorem dX7_follow_8 : decode cX7_follow 8 = .ok (.aload_n 0, 1) := by decide +kernel
theorem dX7_follow_9 : decode cX7_follow 9 = .ok (.iload_n 1, 1) := by decide +kernel
theorem dX7_follow_10 : decode cX7_follow 10 = .ok (.iload_n 2, 1) := by decide +kernel
theorem dX7_follow_11 : decode cX7_follow 11 = .ok (.invokevirtual 218, 3) := by decide +kernel
theorem dX7_follow_14 : decode cX7_follow 14 = .ok (.astore 4, 2) := by decide +kernel
theorem dX7_follow_16 : decode cX7_follow 16 = .ok (.iload_n 3, 1) := by decide +kernel
theorem dX7_follow_17 : decode cX7_follow 17 = .ok (.bipush 80, 2) := by decide +kernel
theorem dX7_follow_19 : decode cX7_follow 19 = .ok (.if_icmp .lt 13, 3) := by decide +kernel
theorem dX7_follow_22 : decode cX7_follow 22 = .ok (.iload_n 3, 1) := by decide +kernel
theorem dX7_follow_23 : decode cX7_follow 23 = .ok (.bipush 80, 2) := by decide +kernel
theorem dX7_follow_25 : decode cX7_follow 25 = .ok (.isub, 1) := by decide +kernel
theorem dX7_follow_26 : decode cX7_follow 26 = .ok (.bipush 32, 2) := by decide +kernel
theorem dX7_follow_28 : decode cX7_follow 28 = .ok (.irem, 1) := by decide +kernel
theorem dX7_follow_29 : decode cX7_follow 29 = .ok (.ifCond .eq 13, 3) := by decide +kernel
theorem dX7_follow_32 : decode cX7_follow 32 = .ok (.new 80, 3) := by decide +kernel
theorem dX7_follow_35 : decode cX7_follow 35 = .ok (.dup, 1) := by decide +kernel
theorem dX7_follow_36 : decode cX7_follow 36 = .ok (.ldc 222, 2) := by decide +kernel
theorem dX7_follow_38 : decode cX7_follow 38 = .ok (.invokespecial 84, 3) := by decide +kernel
theorem dX7_follow_41 : decode cX7_follow 41 = .ok (.athrow, 1) := by decide +kernel
theorem dX7_follow_42 : decode cX7_follow 42 = .ok (.aload_n 0, 1) := by decide +kernel
theorem dX7_follow_43 : decode cX7_follow 43 = .ok (.aload 4, 2) := by decide +kernel
theorem dX7_follow_45 : decode cX7_follow 45 = .ok (.getfield 224, 3) := by decide +kernel
theorem dX7_follow_48 : decode cX7_follow 48 = .ok (.aload_n 0, 1) := by decide +kernel
theorem dX7_follow_49 : decode cX7_follow 49 = .ok (.iload_n 2, 1) := by decide +kernel
theorem dX7_follow_50 : decode cX7_follow 50 = .ok (.invokevirtual 76, 3) := by decide +kernel
theorem dX7_follow_53 : decode cX7_follow 53 = .ok (.iload_n 3, 1) := by decide +kernel
theorem dX7_follow_54 : decode cX7_follow 54 = .ok (.bipush 80, 2) := by decide +kernel
theorem dX7_follow_56 : decode cX7_follow 56 = .ok (.isub, 1) := by decide +kernel
theorem dX7_follow_57 : decode cX7_follow 57 = .ok (.invokevirtual 228, 3) := by decide +kernel
theorem dX7_follow_60 : decode cX7_follow 60 = .ok (.istore 5, 2) := by decide +kernel
theorem dX7_follow_62 : decode cX7_follow 62 = .ok (.iload 5, 2) := by decide +kernel
theorem dX7_follow_64 : decode cX7_follow 64 = .ok (.ifCond .ne 24, 3) := by decide +kernel
theorem dX7_follow_67 : decode cX7_follow 67 = .ok (.aload 4, 2) := by decide +kernel
theorem dX7_follow_69 : decode cX7_follow 69 = .ok (.new 143, 3) := by decide +kernel
theorem dX7_follow_72 : decode cX7_follow 72 = .ok (.dup, 1) := by decide +kernel
theorem dX7_follow_73 : decode cX7_follow 73 = .ok (.aload_n 0, 1) := by decide +kernel
theorem dX7_follow_74 : decode cX7_follow 74 = .ok (.getfield 14, 3) := by decide +kernel
theorem dX7_follow_77 : decode cX7_follow 77 = .ok (.getfield 61, 3) := by decide +kernel
theorem dX7_follow_80 : decode cX7_follow 80 = .ok (.bipush 80, 2) := by decide +kernel
theorem dX7_follow_82 : decode cX7_follow 82 = .ok (.invokespecial 232, 3) := by decide +kernel
theorem dX7_follow_85 : decode cX7_follow 85 = .ok (.putfield 224, 3) := by decide +kernel
theorem dX7_follow_88 : decode cX7_follow 88 = .ok (.iload 5, 2) := by decide +kernel
theorem dX7_follow_90 : decode cX7_follow 90 = .ok (.iconst 3, 1) := by decide +kernel
theorem dX7_follow_91 : decode cX7_follow 91 = .ok (.if_icmp .ne 37, 3) := by decide +kernel
theorem dX7_follow_94 : decode cX7_follow 94 = .ok (.aload 4, 2) := by decide +kernel
theorem dX7_follow_96 : decode cX7_follow 96 = .ok (.invokevirtual 234, 3) := by decide +kernel
theorem dX7_follow_99 : decode cX7_follow 99 = .ok (.ifCond .eq 29, 3) := by decide +kernel
theorem dX7_follow_102 : decode cX7_follow 102 = .ok (.aload 4, 2) := by decide +kernel
theorem dX7_follow_104 : decode cX7_follow 104 = .ok (.aload 4, 2) := by decide +kernel
theorem dX7_follow_106 : decode cX7_follow 106 = .ok (.getfield 224, 3) := by decide +kernel
theorem dX7_follow_109 : decode cX7_follow 109 = .ok (.new 143, 3) := by decide +kernel
theorem dX7_follow_112 : decode cX7_follow 112 = .ok (.dup, 1) := by decide +kernel
theorem dX7_follow_113 : decode cX7_follow 113 = .ok (.aload_n 0, 1) := by decide +kernel
theorem dX7_follow_114 : decode cX7_follow 114 = .ok (.getfield 14, 3) := by decide +kernel
theorem dX7_follow_117 : decode cX7_follow 117 = .ok (.getfield 61, 3) := by decide +kernel
theorem dX7_follow_120 : decode cX7_follow 120 = .ok (.bipush 80, 2) := by decide +kernel
theorem dX7_follow_122 : decode cX7_follow 122 = .ok (.invokespecial 232, 3) := by decide +kernel
theorem dX7_follow_125 : decode cX7_follow 125 = .ok (.invokevirtual 238, 3) := by decide +kernel
theorem dX7_follow_128 : decode cX7_follow 128 = .ok (.iload 5, 2) := by decide +kernel
theorem dX7_follow_130 : decode cX7_follow 130 = .ok (.ireturn, 1) := by decide +kernel
theorem dX7_gossip_0 : decode cX7_gossip 0 = .ok (.aload_n 0, 1) := by decide +kernel
theorem dX7_gossip_1 : decode cX7_gossip 1 = .ok (.iload_n 1, 1) := by decide +kernel
theorem dX7_gossip_2 : decode cX7_gossip 2 = .ok (.iload_n 3, 1) := by decide +kernel
theorem dX7_gossip_3 : decode cX7_gossip 3 = .ok (.invokevirtual 218, 3) := by decide +kernel
theorem dX7_gossip_6 : decode cX7_gossip 6 = .ok (.astore 4, 2) := by decide +kernel
theorem dX7_gossip_8 : decode cX7_gossip 8 = .ok (.aload_n 0, 1) := by decide +kernel
theorem dX7_gossip_9 : decode cX7_gossip 9 = .ok (.iload_n 2, 1) := by decide +kernel
theorem dX7_gossip_10 : decode cX7_gossip 10 = .ok (.iload_n 3, 1) := by decide +kernel
theorem dX7_gossip_11 : decode cX7_gossip 11 = .ok (.invokevirtual 218, 3) := by decide +kernel
theorem dX7_gossip_14 : decode cX7_gossip 14 = .ok (.astore 5, 2) := by decide +kernel
theorem dX7_gossip_16 : decode cX7_gossip 16 = .ok (.aload 4, 2) := by decide +kernel
theorem dX7_gossip_18 : decode cX7_gossip 18 = .ok (.getfield 224, 3) := by decide +kernel
theorem dX7_gossip_21 : decode cX7_gossip 21 = .ok (.astore 6, 2) := by decide +kernel
theorem dX7_gossip_23 : decode cX7_gossip 23 = .ok (.aload 5, 2) := by decide +kernel
theorem dX7_gossip_25 : decode cX7_gossip 25 = .ok (.getfield 224, 3) := by decide +kernel
theorem dX7_gossip_28 : decode cX7_gossip 28 = .ok (.astore 7, 2) := by decide +kernel
theorem dX7_gossip_30 : decode cX7_gossip 30 = .ok (.aload 6, 2) := by decide +kernel
theorem dX7_gossip_32 : decode cX7_gossip 32 = .ok (.ifnull 8, 3) := by decide +kernel
theorem dX7_gossip_35 : decode cX7_gossip 35 = .ok (.aload 7, 2) := by decide +kernel
theorem dX7_gossip_37 : decode cX7_gossip 37 = .ok (.ifnonnull 5, 3) := by decide +kernel
theorem dX7_gossip_40 : decode cX7_gossip 40 = .ok (.iconst 0, 1) := by decide +kernel
theorem dX7_gossip_41 : decode cX7_gossip 41 = .ok (.ireturn, 1) := by decide +kernel
theorem dX7_gossip_42 : decode cX7_gossip 42 = .ok (.aload 6, 2) := by decide +kernel
theorem dX7_gossip_44 : decode cX7_gossip 44 = .ok (.bipush 8, 2) := by decide +kernel
theorem dX7_gossip_46 : decode cX7_gossip 46 = .ok (.invokevirtual 148, 3) := by decide +kernel
theorem dX7_gossip_49 : decode cX7_gossip 49 = .ok (.lstore 8, 2) := by decide +kernel
theorem dX7_gossip_51 : decode cX7_gossip 51 = .ok (.aload 7, 2) := by decide +kernel
theorem dX7_gossip_53 : decode cX7_gossip 53 = .ok (.bipush 8, 2) := by decide +kernel
theorem dX7_gossip_55 : decode cX7_gossip 55 = .ok (.invokevirtual 148, 3) := by decide +kernel
theorem dX7_gossip_58 : decode cX7_gossip 58 = .ok (.lstore 10, 2) := by decide +kernel
theorem dX7_gossip_60 : decode cX7_gossip 60 = .ok (.lload 8, 2) := by decide +kernel
theorem dX7_gossip_62 : decode cX7_gossip 62 = .ok (.lload 10, 2) := by decide +kernel
theorem dX7_gossip_64 : decode cX7_gossip 64 = .ok (.lcmp, 1) := by decide +kernel
theorem dX7_gossip_65 : decode cX7_gossip 65 = .ok (.ifCond .eq 17, 3) := by decide +kernel
theorem dX7_gossip_68 : decode cX7_gossip 68 = .ok (.lload 8, 2) := by decide +kernel
theorem dX7_gossip_70 : decode cX7_gossip 70 = .ok (.lload 10, 2) := by decide +kernel
theorem dX7_gossip_72 : decode cX7_gossip 72 = .ok (.lcmp, 1) := by decide +kernel
theorem dX7_gossip_73 : decode cX7_gossip 73 = .ok (.ifCond .le 7, 3) := by decide +kernel
theorem dX7_gossip_76 : decode cX7_gossip 76 = .ok (.iconst 1, 1) := by decide +kernel
theorem dX7_gossip_77 : decode cX7_gossip 77 = .ok (.goto 4, 3) := by decide +kernel
theorem dX7_gossip_80 : decode cX7_gossip 80 = .ok (.iconst 2, 1) := by decide +kernel
theorem dX7_gossip_81 : decode cX7_gossip 81 = .ok (.ireturn, 1) := by decide +kernel
theorem dX7_gossip_82 : decode cX7_gossip 82 = .ok (.aload 6, 2) := by decide +kernel
theorem dX7_gossip_84 : decode cX7_gossip 84 = .ok (.getfield 142, 3) := by decide +kernel
theorem dX7_gossip_87 : decode cX7_gossip 87 = .ok (.bipush 16, 2) := by decide +kernel
theorem dX7_gossip_89 : decode cX7_gossip 89 = .ok (.aload 7, 2) := by decide +kernel
theorem dX7_gossip_91 : decode cX7_gossip 91 = .ok (.getfield 142, 3) := by decide +kernel
theorem dX7_gossip_94 : decode cX7_gossip 94 = .ok (.bipush 16, 2) := by decide +kernel
theorem dX7_gossip_96 : decode cX7_gossip 96 = .ok (.bipush 32, 2) := by decide +kernel
theorem dX7_gossip_98 : decode cX7_gossip 98 = .ok (.invokestatic 242, 3) := by decide +kernel
theorem dX7_gossip_101 : decode cX7_gossip 101 = .ok (.ifCond .eq 5, 3) := by decide +kernel
theorem dX7_gossip_104 : decode cX7_gossip 104 = .ok (.iconst 0, 1) := by decide +kernel
theorem dX7_gossip_105 : decode cX7_gossip 105 = .ok (.ireturn, 1) := by decide +kernel
theorem dX7_gossip_106 : decode cX7_gossip 106 = .ok (.aload 4, 2) := by decide +kernel
theorem dX7_gossip_108 : decode cX7_gossip 108 = .ok (.aload 6, 2) := by decide +kernel
theorem dX7_gossip_110 : decode cX7_gossip 110 = .ok (.aload 7, 2) := by decide +kernel
theorem dX7_gossip_112 : decode cX7_gossip 112 = .ok (.invokevirtual 238, 3) := by decide +kernel
theorem dX7_gossip_115 : decode cX7_gossip 115 = .ok (.aload 5, 2) := by decide +kernel
theorem dX7_gossip_117 : decode cX7_gossip 117 = .ok (.aload 6, 2) := by decide +kernel
theorem dX7_gossip_119 : decode cX7_gossip 119 = .ok (.aload 7, 2) := by decide +kernel
theorem dX7_gossip_121 : decode cX7_gossip 121 = .ok (.invokevirtual 238, 3) := by decide +kernel
theorem dX7_gossip_124 : decode cX7_gossip 124 = .ok (.iconst 3, 1) := by decide +kernel
theorem dX7_gossip_125 : decode cX7_gossip 125 = .ok (.ireturn, 1) := by decide +kernel
theorem dX7_has_0 : decode cX7_has 0 = .ok (.aload_n 0, 1) := by decide +kernel
theorem dX7_has_1 : decode cX7_has 1 = .ok (.iload_n 1, 1) := by decide +kernel
theorem dX7_has_2 : decode cX7_has 2 = .ok (.iload_n 2, 1) := by decide +kernel
theorem dX7_has_3 : decode cX7_has 3 = .ok (.invokevirtual 218, 3) := by decide +kernel
theorem dX7_has_6 : decode cX7_has 6 = .ok (.iload_n 3, 1) := by decide +kernel
theorem dX7_has_7 : decode cX7_has 7 = .ok (.invokevirtual 246, 3) := by decide +kernel
theorem dX7_has_10 : decode cX7_has 10 = .ok (.astore 4, 2) := by decide +kernel
theorem dX7_has_12 : decode cX7_has 12 = .ok (.aload 4, 2) := by decide +kernel
theorem dX7_has_14 : decode cX7_has 14 = .ok (.ifnonnull 13, 3) := by decide +kernel
theorem dX7_has_17 : decode cX7_has 17 = .ok (.new 131, 3) := by decide +kernel
theorem dX7_has_20 : decode cX7_has 20 = .ok (.dup, 1) := by decide +kernel
theorem dX7_has_21 : decode cX7_has 21 = .ok (.ldc 249, 2) := by decide +kernel
theorem dX7_has_23 : decode cX7_has 23 = .ok (.invokespecial 135, 3) := by decide +kernel
theorem dX7_has_26 : decode cX7_has 26 = .ok (.athrow, 1) := by decide +kernel
theorem dX7_has_27 : decode cX7_has 27 = .ok (.aload_n 0, 1) := by decide +kernel
theorem dX7_has_28 : decode cX7_has 28 = .ok (.getfield 18, 3) := by decide +kernel
theorem dX7_has_31 : decode cX7_has 31 = .ok (.aload 4, 2) := by decide +kernel
theorem dX7_has_33 : decode cX7_has 33 = .ok (.getfield 142, 3) := by decide +kernel
theorem dX7_has_36 : decode cX7_has 36 = .ok (.aload 4, 2) := by decide +kernel
theorem dX7_has_38 : decode cX7_has 38 = .ok (.getfield 142, 3) := by decide +kernel
theorem dX7_has_41 : decode cX7_has 41 = .ok (.arraylength, 1) := by decide +kernel
theorem dX7_has_42 : decode cX7_has 42 = .ok (.invokevirtual 145, 3) := by decide +kernel
theorem dX7_has_45 : decode cX7_has 45 = .ok (.iconst 1, 1) := by decide +kernel
theorem dX7_has_46 : decode cX7_has 46 = .ok (.ireturn, 1) := by decide +kernel
theorem dX7_logOf_0 : decode cX7_logOf 0 = .ok (.iload_n 1, 1) := by decide +kernel
theorem dX7_logOf_1 : decode cX7_logOf 1 = .ok (.ifCond .lt 8, 3) := by decide +kernel
theorem dX7_logOf_4 : decode cX7_logOf 4 = .ok (.iload_n 1, 1) := by decide +kernel
theorem dX7_logOf_5 : decode cX7_logOf 5 = .ok (.iconst 2, 1) := by decide +kernel
theorem dX7_logOf_6 : decode cX7_logOf 6 = .ok (.if_icmp .lt 13, 3) := by decide +kernel
theorem dX7_logOf_9 : decode cX7_logOf 9 = .ok (.new 251, 3) := by decide +kernel
theorem dX7_logOf_12 : decode cX7_logOf 12 = .ok (.dup, 1) := by decide +kernel
theorem dX7_logOf_13 : decode cX7_logOf 13 = .ok (.ldc 253, 2) := by decide +kernel
theorem dX7_logOf_15 : decode cX7_logOf 15 = .ok (.invokespecial 255, 3) := by decide +kernel
theorem dX7_logOf_18 : decode cX7_logOf 18 = .ok (.athrow, 1) := by decide +kernel
theorem dX7_logOf_19 : decode cX7_logOf 19 = .ok (.aload_n 0, 1) := by decide +kernel
theorem dX7_logOf_20 : decode cX7_logOf 20 = .ok (.getfield 23, 3) := by decide +kernel
theorem dX7_logOf_23 : decode cX7_logOf 23 = .ok (.iload_n 1, 1) := by decide +kernel
theorem dX7_logOf_24 : decode cX7_logOf 24 = .ok (.aaload, 1) := by decide +kernel
theorem dX7_logOf_25 : decode cX7_logOf 25 = .ok (.areturn, 1) := by decide +kernel
theorem dX7_viewOf_0 : decode cX7_viewOf 0 = .ok (.iload_n 1, 1) := by decide +kernel
theorem dX7_viewOf_1 : decode cX7_viewOf 1 = .ok (.ifCond .lt 17, 3) := by decide +kernel
theorem dX7_viewOf_4 : decode cX7_viewOf 4 = .ok (.iload_n 1, 1) := by decide +kernel
theorem dX7_viewOf_5 : decode cX7_viewOf 5 = .ok (.iconst 4, 1) := by decide +kernel
theorem dX7_viewOf_6 : decode cX7_viewOf 6 = .ok (.if_icmp .ge 12, 3) := by decide +kernel
theorem dX7_viewOf_9 : decode cX7_viewOf 9 = .ok (.iload_n 2, 1) := by decide +kernel
theorem dX7_viewOf_10 : decode cX7_viewOf 10 = .ok (.ifCond .lt 8, 3) := by decide +kernel
theorem dX7_viewOf_13 : decode cX7_viewOf 13 = .ok (.iload_n 2, 1) := by decide +kernel
theorem dX7_viewOf_14 : decode cX7_viewOf 14 = .ok (.iconst 2, 1) := by decide +kernel
theorem dX7_viewOf_15 : decode cX7_viewOf 15 = .ok (.if_icmp .lt 14, 3) := by decide +kernel
theorem dX7_viewOf_18 : decode cX7_viewOf 18 = .ok (.new 251, 3) := by decide +kernel
theorem dX7_viewOf_21 : decode cX7_viewOf 21 = .ok (.dup, 1) := by decide +kernel
theorem dX7_viewOf_22 : decode cX7_viewOf 22 = .ok (.ldc_w 256, 3) := by decide +kernel
theorem dX7_viewOf_25 : decode cX7_viewOf 25 = .ok (.invokespecial 255, 3) := by decide +kernel
theorem dX7_viewOf_28 : decode cX7_viewOf 28 = .ok (.athrow, 1) := by decide +kernel
theorem dX7_viewOf_29 : decode cX7_viewOf 29 = .ok (.aload_n 0, 1) := by decide +kernel
theorem dX7_viewOf_30 : decode cX7_viewOf 30 = .ok (.getfield 30, 3) := by decide +kernel
theorem dX7_viewOf_33 : decode cX7_viewOf 33 = .ok (.iload_n 1, 1) := by decide +kernel
theorem dX7_viewOf_34 : decode cX7_viewOf 34 = .ok (.iconst 2, 1) := by decide +kernel
theorem dX7_viewOf_35 : decode cX7_viewOf 35 = .ok (.imul, 1) := by decide +kernel
theorem dX7_viewOf_36 : decode cX7_viewOf 36 = .ok (.iload_n 2, 1) := by decide +kernel
theorem dX7_viewOf_37 : decode cX7_viewOf 37 = .ok (.iadd, 1) := by decide +kernel
theorem dX7_viewOf_38 : decode cX7_viewOf 38 = .ok (.aaload, 1) := by decide +kernel
theorem dX7_viewOf_39 : decode cX7_viewOf 39 = .ok (.areturn, 1) := by decide +kernel
theorem dX7_judge_0 : decode cX7_judge 0 = .ok (.aload_n 0, 1) := by decide +kernel
theorem dX7_judge_1 : decode cX7_judge 1 = .ok (.getfield 14, 3) := by decide +kernel
theorem dX7_judge_4 : decode cX7_judge 4 = .ok (.getfield 61, 3) := by decide +kernel
theorem dX7_judge_7 : decode cX7_judge 7 = .ok (.iconst 0, 1) := by decide +kernel
theorem dX7_judge_8 : decode cX7_judge 8 = .ok (.invokestatic 258, 3) := by decide +kernel
theorem dX7_judge_11 : decode cX7_judge 11 = .ok (.lstore 4, 2) := by decide +kernel
theorem dX7_judge_13 : decode cX7_judge 13 = .ok (.aload_n 0, 1) := by decide +kernel
theorem dX7_judge_14 : decode cX7_judge 14 = .ok (.getfield 14, 3) := by decide +kernel
theorem dX7_judge_17 : decode cX7_judge 17 = .ok (.getfield 61, 3) := by decide +kernel
theorem dX7_judge_20 : decode cX7_judge 20 = .ok (.bipush 8, 2) := by decide +kernel
theorem dX7_judge_22 : decode cX7_judge 22 = .ok (.invokestatic 258, 3) := by decide +kernel
theorem dX7_judge_25 : decode cX7_judge 25 = .ok (.lstore 6, 2) := by decide +kernel
theorem dX7_judge_27 : decode cX7_judge 27 = .ok (.lload 4, 2) := by decide +kernel
theorem dX7_judge_29 : decode cX7_judge 29 = .ok (.lconst 0, 1) := by decide +kernel
theorem dX7_judge_30 : decode cX7_judge 30 = .ok (.lcmp, 1) := by decide +kernel
theorem dX7_judge_31 : decode cX7_judge 31 = .ok (.ifCond .lt 24, 3) := by decide +kernel
theorem dX7_judge_34 : decode cX7_judge 34 = .ok (.lload 6, 2) := by decide +kernel
theorem dX7_judge_36 : decode cX7_judge 36 = .ok (.lconst 0, 1) := by decide +kernel
theorem dX7_judge_37 : decode cX7_judge 37 = .ok (.lcmp, 1) := by decide +kernel
theorem dX7_judge_38 : decode cX7_judge 38 = .ok (.ifCond .lt 17, 3) := by decide +kernel
theorem dX7_judge_41 : decode cX7_judge 41 = .ok (.aload_n 2, 1) := by decide +kernel
theorem dX7_judge_42 : decode cX7_judge 42 = .ok (.aload_n 0, 1) := by decide +kernel
theorem dX7_judge_43 : decode cX7_judge 43 = .ok (.getfield 14, 3) := by decide +kernel
theorem dX7_judge_46 : decode cX7_judge 46 = .ok (.getfield 61, 3) := by decide +kernel
theorem dX7_judge_49 : decode cX7_judge 49 = .ok (.invokevirtual 208, 3) := by decide +kernel
theorem dX7_judge_52 : decode cX7_judge 52 = .ok (.ifCond .ne 5, 3) := by decide +kernel
theorem dX7_judge_55 : decode cX7_judge 55 = .ok (.iconst 1, 1) := by decide +kernel
theorem dX7_judge_56 : decode cX7_judge 56 = .ok (.ireturn, 1) := by decide +kernel
theorem dX7_judge_57 : decode cX7_judge 57 = .ok (.aload_n 1, 1) := by decide +kernel
theorem dX7_judge_58 : decode cX7_judge 58 = .ok (.ifnonnull 13, 3) := by decide +kernel
theorem dX7_judge_61 : decode cX7_judge 61 = .ok (.iload_n 3, 1) := by decide +kernel
theorem dX7_judge_62 : decode cX7_judge 62 = .ok (.ifCond .ne 7, 3) := by decide +kernel
theorem dX7_judge_65 : decode cX7_judge 65 = .ok (.iconst 0, 1) := by decide +kernel
theorem dX7_judge_66 : decode cX7_judge 66 = .ok (.goto 4, 3) := by decide +kernel
theorem dX7_judge_69 : decode cX7_judge 69 = .ok (.iconst 4, 1) := by decide +kernel
theorem dX7_judge_70 : decode cX7_judge 70 = .ok (.ireturn, 1) := by decide +kernel
theorem dX7_judge_71 : decode cX7_judge 71 = .ok (.aload_n 1, 1) := by decide +kernel
theorem dX7_judge_72 : decode cX7_judge 72 = .ok (.bipush 8, 2) := by decide +kernel
theorem dX7_judge_74 : decode cX7_judge 74 = .ok (.invokevirtual 148, 3) := by decide +kernel
theorem dX7_judge_77 : decode cX7_judge 77 = .ok (.lstore 8, 2) := by decide +kernel
theorem dX7_judge_79 : decode cX7_judge 79 = .ok (.lload 6, 2) := by decide +kernel
theorem dX7_judge_81 : decode cX7_judge 81 = .ok (.lload 8, 2) := by decide +kernel
theorem dX7_judge_83 : decode cX7_judge 83 = .ok (.lcmp, 1) := by decide +kernel
theorem dX7_judge_84 : decode cX7_judge 84 = .ok (.ifCond .ge 5, 3) := by decide +kernel
theorem dX7_judge_87 : decode cX7_judge 87 = .ok (.iconst 2, 1) := by decide +kernel
theorem dX7_judge_88 : decode cX7_judge 88 = .ok (.ireturn, 1) := by decide +kernel
theorem dX7_judge_89 : decode cX7_judge 89 = .ok (.lload 6, 2) := by decide +kernel
theorem dX7_judge_91 : decode cX7_judge 91 = .ok (.lload 8, 2) := by decide +kernel
theorem dX7_judge_93 : decode cX7_judge 93 = .ok (.lcmp, 1) := by decide +kernel
theorem dX7_judge_94 : decode cX7_judge 94 = .ok (.ifCond .ne 28, 3) := by decide +kernel
theorem dX7_judge_97 : decode cX7_judge 97 = .ok (.aload_n 1, 1) := by decide +kernel
theorem dX7_judge_98 : decode cX7_judge 98 = .ok (.getfield 142, 3) := by decide +kernel
theorem dX7_judge_101 : decode cX7_judge 101 = .ok (.bipush 16, 2) := by decide +kernel
theorem dX7_judge_103 : decode cX7_judge 103 = .ok (.aload_n 0, 1) := by decide +kernel
theorem dX7_judge_104 : decode cX7_judge 104 = .ok (.getfield 14, 3) := by decide +kernel
theorem dX7_judge_107 : decode cX7_judge 107 = .ok (.getfield 61, 3) := by decide +kernel
theorem dX7_judge_110 : decode cX7_judge 110 = .ok (.bipush 16, 2) := by decide +kernel
theorem dX7_judge_112 : decode cX7_judge 112 = .ok (.bipush 32, 2) := by decide +kernel
theorem dX7_judge_114 : decode cX7_judge 114 = .ok (.invokestatic 242, 3) := by decide +kernel
theorem dX7_judge_117 : decode cX7_judge 117 = .ok (.ifCond .ne 5, 3) := by decide +kernel
theorem dX7_judge_120 : decode cX7_judge 120 = .ok (.iconst 3, 1) := by decide +kernel
theorem dX7_judge_121 : decode cX7_judge 121 = .ok (.ireturn, 1) := by decide +kernel
theorem dX7_judge_122 : decode cX7_judge 122 = .ok (.lload 6, 2) := by decide +kernel
theorem dX7_judge_124 : decode cX7_judge 124 = .ok (.lload 8, 2) := by decide +kernel
theorem dX7_judge_126 : decode cX7_judge 126 = .ok (.lcmp, 1) := by decide +kernel
theorem dX7_judge_127 : decode cX7_judge 127 = .ok (.ifCond .eq 10, 3) := by decide +kernel
theorem dX7_judge_130 : decode cX7_judge 130 = .ok (.lload 8, 2) := by decide +kernel
theorem dX7_judge_132 : decode cX7_judge 132 = .ok (.lconst 0, 1) := by decide +kernel
theorem dX7_judge_133 : decode cX7_judge 133 = .ok (.lcmp, 1) := by decide +kernel
theorem dX7_judge_134 : decode cX7_judge 134 = .ok (.ifCond .ne 15, 3) := by decide +kernel
theorem dX7_judge_137 : decode cX7_judge 137 = .ok (.iload_n 3, 1) := by decide +kernel
theorem dX7_judge_138 : decode cX7_judge 138 = .ok (.ifCond .ne 7, 3) := by decide +kernel
theorem dX7_judge_141 : decode cX7_judge 141 = .ok (.iconst 1, 1) := by decide +kernel
theorem dX7_judge_142 : decode cX7_judge 142 = .ok (.goto 26, 3) := by decide +kernel
theorem dX7_judge_145 : decode cX7_judge 145 = .ok (.iconst 0, 1) := by decide +kernel
theorem dX7_judge_146 : decode cX7_judge 146 = .ok (.goto 22, 3) := by decide +kernel
theorem dX7_judge_149 : decode cX7_judge 149 = .ok (.aload_n 0, 1) := by decide +kernel
theorem dX7_judge_150 : decode cX7_judge 150 = .ok (.lload 8, 2) := by decide +kernel
theorem dX7_judge_152 : decode cX7_judge 152 = .ok (.lload 6, 2) := by decide +kernel
theorem dX7_judge_154 : decode cX7_judge 154 = .ok (.aload_n 1, 1) := by decide +kernel
theorem dX7_judge_155 : decode cX7_judge 155 = .ok (.getfield 142, 3) := by decide +kernel
theorem dX7_judge_158 : decode cX7_judge 158 = .ok (.bipush 16, 2) := by decide +kernel
theorem dX7_judge_160 : decode cX7_judge 160 = .ok (.bipush 16, 2) := by decide +kernel
theorem dX7_judge_162 : decode cX7_judge 162 = .ok (.iload_n 3, 1) := by decide +kernel
theorem dX7_judge_163 : decode cX7_judge 163 = .ok (.bipush 80, 2) := by decide +kernel
theorem dX7_judge_165 : decode cX7_judge 165 = .ok (.invokevirtual 202, 3) := by decide +kernel
theorem dX7_judge_168 : decode cX7_judge 168 = .ok (.istore 10, 2) := by decide +kernel
theorem dX7_judge_170 : decode cX7_judge 170 = .ok (.iload 10, 2) := by decide +kernel
theorem dX7_judge_172 : decode cX7_judge 172 = .ok (.ifCond .ne 5, 3) := by decide +kernel
theorem dX7_judge_175 : decode cX7_judge 175 = .ok (.iconst 4, 1) := by decide +kernel
theorem dX7_judge_176 : decode cX7_judge 176 = .ok (.ireturn, 1) := by decide +kernel
theorem dX7_judge_177 : decode cX7_judge 177 = .ok (.lload 4, 2) := by decide +kernel
theorem dX7_judge_179 : decode cX7_judge 179 = .ok (.aload_n 1, 1) := by decide +kernel
theorem dX7_judge_180 : decode cX7_judge 180 = .ok (.iconst 0, 1) := by decide +kernel
theorem dX7_judge_181 : decode cX7_judge 181 = .ok (.invokevirtual 148, 3) := by decide +kernel
theorem dX7_judge_184 : decode cX7_judge 184 = .ok (.lcmp, 1) := by decide +kernel
theorem dX7_judge_185 : decode cX7_judge 185 = .ok (.ifCond .ge 7, 3) := by decide +kernel
theorem dX7_judge_188 : decode cX7_judge 188 = .ok (.iconst 5, 1) := by decide +kernel
theorem dX7_judge_189 : decode cX7_judge 189 = .ok (.goto 4, 3) := by decide +kernel
theorem dX7_judge_192 : decode cX7_judge 192 = .ok (.iconst 0, 1) := by decide +kernel
theorem dX7_judge_193 : decode cX7_judge 193 = .ok (.ireturn, 1) := by decide +kernel
theorem dX7_goesOn_0 : decode cX7_goesOn 0 = .ok (.aload_n 0, 1) := by decide +kernel
theorem dX7_goesOn_1 : decode cX7_goesOn 1 = .ok (.getfield 38, 3) := by decide +kernel
theorem dX7_goesOn_4 : decode cX7_goesOn 4 = .ok (.lload_n 1, 1) := by decide +kernel
theorem dX7_goesOn_5 : decode cX7_goesOn 5 = .ok (.lload_n 3, 1) := by decide +kernel
theorem dX7_goesOn_6 : decode cX7_goesOn 6 = .ok (.invokevirtual 185, 3) := by decide +kernel
theorem dX7_goesOn_9 : decode cX7_goesOn 9 = .ok (.iload 8, 2) := by decide +kernel
theorem dX7_goesOn_11 : decode cX7_goesOn 11 = .ok (.aload_n 0, 1) := by decide +kernel
theorem dX7_goesOn_12 : decode cX7_goesOn 12 = .ok (.getfield 38, 3) := by decide +kernel
theorem dX7_goesOn_15 : decode cX7_goesOn 15 = .ok (.invokevirtual 188, 3) := by decide +kernel
theorem dX7_goesOn_18 : decode cX7_goesOn 18 = .ok (.bipush 32, 2) := by decide +kernel
theorem dX7_goesOn_20 : decode cX7_goesOn 20 = .ok (.imul, 1) := by decide +kernel
theorem dX7_goesOn_21 : decode cX7_goesOn 21 = .ok (.if_icmp .eq 5, 3) := by decide +kernel
theorem dX7_goesOn_24 : decode cX7_goesOn 24 = .ok (.iconst 0, 1) := by decide +kernel
theorem dX7_goesOn_25 : decode cX7_goesOn 25 = .ok (.ireturn, 1) := by decide +kernel
theorem dX7_goesOn_26 : decode cX7_goesOn 26 = .ok (.aload_n 0, 1) := by decide +kernel
theorem dX7_goesOn_27 : decode cX7_goesOn 27 = .ok (.getfield 45, 3) := by decide +kernel
theorem dX7_goesOn_30 : decode cX7_goesOn 30 = .ok (.aload 5, 2) := by decide +kernel
theorem dX7_goesOn_32 : decode cX7_goesOn 32 = .ok (.iload 6, 2) := by decide +kernel
theorem dX7_goesOn_34 : decode cX7_goesOn 34 = .ok (.invokevirtual 191, 3) := by decide +kernel
theorem dX7_goesOn_37 : decode cX7_goesOn 37 = .ok (.aload_n 0, 1) := by decide +kernel
theorem dX7_goesOn_38 : decode cX7_goesOn 38 = .ok (.getfield 45, 3) := by decide +kernel
theorem dX7_goesOn_41 : decode cX7_goesOn 41 = .ok (.aload_n 0, 1) := by decide +kernel
theorem dX7_goesOn_42 : decode cX7_goesOn 42 = .ok (.getfield 38, 3) := by decide +kernel
theorem dX7_goesOn_45 : decode cX7_goesOn 45 = .ok (.aload_n 0, 1) := by decide +kernel
theorem dX7_goesOn_46 : decode cX7_goesOn 46 = .ok (.getfield 14, 3) := by decide +kernel
theorem dX7_goesOn_49 : decode cX7_goesOn 49 = .ok (.getfield 61, 3) := by decide +kernel
theorem dX7_goesOn_52 : decode cX7_goesOn 52 = .ok (.iload 9, 2) := by decide +kernel
theorem dX7_goesOn_54 : decode cX7_goesOn 54 = .ok (.invokevirtual 194, 3) := by decide +kernel
theorem dX7_goesOn_57 : decode cX7_goesOn 57 = .ok (.aload_n 0, 1) := by decide +kernel
theorem dX7_goesOn_58 : decode cX7_goesOn 58 = .ok (.getfield 45, 3) := by decide +kernel
theorem dX7_goesOn_61 : decode cX7_goesOn 61 = .ok (.aload 5, 2) := by decide +kernel
theorem dX7_goesOn_63 : decode cX7_goesOn 63 = .ok (.iload 6, 2) := by decide +kernel
theorem dX7_goesOn_65 : decode cX7_goesOn 65 = .ok (.invokevirtual 262, 3) := by decide +kernel
theorem dX7_goesOn_68 : decode cX7_goesOn 68 = .ok (.ifCond .eq 26, 3) := by decide +kernel
theorem dX7_goesOn_71 : decode cX7_goesOn 71 = .ok (.aload_n 0, 1) := by decide +kernel
theorem dX7_goesOn_72 : decode cX7_goesOn 72 = .ok (.getfield 45, 3) := by decide +kernel
theorem dX7_goesOn_75 : decode cX7_goesOn 75 = .ok (.aload_n 0, 1) := by decide +kernel
theorem dX7_goesOn_76 : decode cX7_goesOn 76 = .ok (.getfield 14, 3) := by decide +kernel
theorem dX7_goesOn_79 : decode cX7_goesOn 79 = .ok (.getfield 61, 3) := by decide +kernel
theorem dX7_goesOn_82 : decode cX7_goesOn 82 = .ok (.iload 7, 2) := by decide +kernel
theorem dX7_goesOn_84 : decode cX7_goesOn 84 = .ok (.invokevirtual 198, 3) := by decide +kernel
theorem dX7_goesOn_87 : decode cX7_goesOn 87 = .ok (.ifCond .eq 7, 3) := by decide +kernel
theorem dX7_goesOn_90 : decode cX7_goesOn 90 = .ok (.iconst 1, 1) := by decide +kernel
theorem dX7_goesOn_91 : decode cX7_goesOn 91 = .ok (.goto 4, 3) := by decide +kernel
theorem dX7_goesOn_94 : decode cX7_goesOn 94 = .ok (.iconst 0, 1) := by decide +kernel
theorem dX7_goesOn_95 : decode cX7_goesOn 95 = .ok (.ireturn, 1) := by decide +kernel
theorem dX8_init_0 : decode cX8_init 0 = .ok (.aload_n 0, 1) := by decide +kernel
theorem dX8_init_1 : decode cX8_init 1 = .ok (.invokespecial 1, 3) := by decide +kernel
theorem dX8_init_4 : decode cX8_init 4 = .ok (.aload_n 0, 1) := by decide +kernel
theorem dX8_init_5 : decode cX8_init 5 = .ok (.sipush 2220, 3) := by decide +kernel
theorem dX8_init_8 : decode cX8_init 8 = .ok (.newarray .int, 2) := by decide +kernel
theorem dX8_init_10 : decode cX8_init 10 = .ok (.putfield 7, 3) := by decide +kernel
theorem dX8_init_13 : decode cX8_init 13 = .ok (.aload_n 0, 1) := by decide +kernel
theorem dX8_init_14 : decode cX8_init 14 = .ok (.sipush 2400, 3) := by decide +kernel
theorem dX8_init_17 : decode cX8_init 17 = .ok (.newarray .int, 2) := by decide +kernel
theorem dX8_init_19 : decode cX8_init 19 = .ok (.putfield 13, 3) := by decide +kernel
theorem dX8_init_22 : decode cX8_init 22 = .ok (.aload_n 0, 1) := by decide +kernel
theorem dX8_init_23 : decode cX8_init 23 = .ok (.sipush 200, 3) := by decide +kernel
theorem dX8_init_26 : decode cX8_init 26 = .ok (.newarray .int, 2) := by decide +kernel
theorem dX8_init_28 : decode cX8_init 28 = .ok (.putfield 16, 3) := by decide +kernel
theorem dX8_init_31 : decode cX8_init 31 = .ok (.aload_n 0, 1) := by decide +kernel
theorem dX8_init_32 : decode cX8_init 32 = .ok (.iconst 2, 1) := by decide +kernel
theorem dX8_init_33 : decode cX8_init 33 = .ok (.newarray .int, 2) := by decide +kernel
theorem dX8_init_35 : decode cX8_init 35 = .ok (.putfield 19, 3) := by decide +kernel
theorem dX8_init_38 : decode cX8_init 38 = .ok (.aload_n 0, 1) := by decide +kernel
theorem dX8_init_39 : decode cX8_init 39 = .ok (.ldc 22, 2) := by decide +kernel
theorem dX8_init_41 : decode cX8_init 41 = .ok (.newarray .int, 2) := by decide +kernel
theorem dX8_init_43 : decode cX8_init 43 = .ok (.putfield 23, 3) := by decide +kernel
theorem dX8_init_46 : decode cX8_init 46 = .ok (.aload_n 0, 1) := by decide +kernel
theorem dX8_init_47 : decode cX8_init 47 = .ok (.sipush 400, 3) := by decide +kernel
theorem dX8_init_50 : decode cX8_init 50 = .ok (.newarray .int, 2) := by decide +kernel
theorem dX8_init_52 : decode cX8_init 52 = .ok (.putfield 26, 3) := by decide +kernel
theorem dX8_init_55 : decode cX8_init 55 = .ok (.aload_n 0, 1) := by decide +kernel
theorem dX8_init_56 : decode cX8_init 56 = .ok (.iconst 2, 1) := by decide +kernel
theorem dX8_init_57 : decode cX8_init 57 = .ok (.newarray .int, 2) := by decide +kernel
theorem dX8_init_59 : decode cX8_init 59 = .ok (.putfield 29, 3) := by decide +kernel
theorem dX8_init_62 : decode cX8_init 62 = .ok (.aload_n 0, 1) := by decide +kernel
theorem dX8_init_63 : decode cX8_init 63 = .ok (.iconst 2, 1) := by decide +kernel
theorem dX8_init_64 : decode cX8_init 64 = .ok (.newarray .int, 2) := by decide +kernel
theorem dX8_init_66 : decode cX8_init 66 = .ok (.putfield 32, 3) := by decide +kernel
theorem dX8_init_69 : decode cX8_init 69 = .ok (.aload_n 0, 1) := by decide +kernel
theorem dX8_init_70 : decode cX8_init 70 = .ok (.sipush 6400, 3) := by decide +kernel
theorem dX8_init_73 : decode cX8_init 73 = .ok (.newarray .int, 2) := by decide +kernel
theorem dX8_init_75 : decode cX8_init 75 = .ok (.putfield 35, 3) := by decide +kernel
theorem dX8_init_78 : decode cX8_init 78 = .ok (.aload_n 0, 1) := by decide +kernel
theorem dX8_init_79 : decode cX8_init 79 = .ok (.iconst 2, 1) := by decide +kernel
theorem dX8_init_80 : decode cX8_init 80 = .ok (.newarray .long, 2) := by decide +kernel
theorem dX8_init_82 : decode cX8_init 82 = .ok (.putfield 38, 3) := by decide +kernel
theorem dX8_init_85 : decode cX8_init 85 = .ok (.aload_n 0, 1) := by decide +kernel
theorem dX8_init_86 : decode cX8_init 86 = .ok (.iconst 2, 1) := by decide +kernel
theorem dX8_init_87 : decode cX8_init 87 = .ok (.newarray .int, 2) := by decide +kernel
theorem dX8_init_89 : decode cX8_init 89 = .ok (.putfield 42, 3) := by decide +kernel
theorem dX8_init_92 : decode cX8_init 92 = .ok (.aload_n 0, 1) := by decide +kernel
theorem dX8_init_93 : decode cX8_init 93 = .ok (.sipush 1920, 3) := by decide +kernel
theorem dX8_init_96 : decode cX8_init 96 = .ok (.newarray .int, 2) := by decide +kernel
theorem dX8_init_98 : decode cX8_init 98 = .ok (.putfield 45, 3) := by decide +kernel
theorem dX8_init_101 : decode cX8_init 101 = .ok (.aload_n 0, 1) := by decide +kernel
theorem dX8_init_102 : decode cX8_init 102 = .ok (.bipush 24, 2) := by decide +kernel
theorem dX8_init_104 : decode cX8_init 104 = .ok (.newarray .boolean, 2) := by decide +kernel
theorem dX8_init_106 : decode cX8_init 106 = .ok (.putfield 48, 3) := by decide +kernel
theorem dX8_init_109 : decode cX8_init 109 = .ok (.aload_n 0, 1) := by decide +kernel
theorem dX8_init_110 : decode cX8_init 110 = .ok (.sipush 320, 3) := by decide +kernel
theorem dX8_init_113 : decode cX8_init 113 = .ok (.newarray .int, 2) := by decide +kernel
theorem dX8_init_115 : decode cX8_init 115 = .ok (.putfield 52, 3) := by decide +kernel
theorem dX8_init_118 : decode cX8_init 118 = .ok (.aload_n 0, 1) := by decide +kernel
theorem dX8_init_119 : decode cX8_init 119 = .ok (.bipush 8, 2) := by decide +kernel
theorem dX8_init_121 : decode cX8_init 121 = .ok (.newarray .int, 2) := by decide +kernel
theorem dX8_init_123 : decode cX8_init 123 = .ok (.putfield 55, 3) := by decide +kernel
theorem dX8_init_126 : decode cX8_init 126 = .ok (.aload_n 0, 1) := by decide +kernel
theorem dX8_init_127 : decode cX8_init 127 = .ok (.bipush 64, 2) := by decide +kernel
theorem dX8_init_129 : decode cX8_init 129 = .ok (.newarray .int, 2) := by decide +kernel
theorem dX8_init_131 : decode cX8_init 131 = .ok (.putfield 58, 3) := by decide +kernel
theorem dX8_init_134 : decode cX8_init 134 = .ok (.aload_n 0, 1) := by decide +kernel
theorem dX8_init_135 : decode cX8_init 135 = .ok (.bipush 64, 2) := by decide +kernel
theorem dX8_init_137 : decode cX8_init 137 = .ok (.newarray .int, 2) := by decide +kernel
theorem dX8_init_139 : decode cX8_init 139 = .ok (.dup, 1) := by decide +kernel
theorem dX8_init_140 : decode cX8_init 140 = .ok (.iconst 0, 1) := by decide +kernel
theorem dX8_init_141 : decode cX8_init 141 = .ok (.ldc 61, 2) := by decide +kernel
theorem dX8_init_143 : decode cX8_init 143 = .ok (.iastore, 1) := by decide +kernel
theorem dX8_init_144 : decode cX8_init 144 = .ok (.dup, 1) := by decide +kernel
theorem dX8_init_145 : decode cX8_init 145 = .ok (.iconst 1, 1) := by decide +kernel
theorem dX8_init_146 : decode cX8_init 146 = .ok (.ldc 62, 2) := by decide +kernel
theorem dX8_init_148 : decode cX8_init 148 = .ok (.iastore, 1) := by decide +kernel
theorem dX8_init_149 : decode cX8_init 149 = .ok (.dup, 1) := by decide +kernel
theorem dX8_init_150 : decode cX8_init 150 = .ok (.iconst 2, 1) := by decide +kernel
theorem dX8_init_151 : decode cX8_init 151 = .ok (.ldc 63, 2) := by decide +kernel
theorem dX8_init_153 : decode cX8_init 153 = .ok (.iastore, 1) := by decide +kernel
theorem dX8_init_154 : decode cX8_init 154 = .ok (.dup, 1) := by decide +kernel
theorem dX8_init_155 : decode cX8_init 155 = .ok (.iconst 3, 1) := by decide +kernel
theorem dX8_init_156 : decode cX8_init 156 = .ok (.ldc 64, 2) := by decide +kernel
theorem dX8_init_158 : decode cX8_init 158 = .ok (.iastore, 1) := by decide +kernel
theorem dX8_init_159 : decode cX8_init 159 = .ok (.dup, 1) := by decide +kernel
theorem dX8_init_160 : decode cX8_init 160 = .ok (.iconst 4, 1) := by decide +kernel
theorem dX8_init_161 : decode cX8_init 161 = .ok (.ldc 65, 2) := by decide +kernel
theorem dX8_init_163 : decode cX8_init 163 = .ok (.iastore, 1) := by decide +kernel
theorem dX8_init_164 : decode cX8_init 164 = .ok (.dup, 1) := by decide +kernel
theorem dX8_init_165 : decode cX8_init 165 = .ok (.iconst 5, 1) := by decide +kernel
theorem dX8_init_166 : decode cX8_init 166 = .ok (.ldc 66, 2) := by decide +kernel
theorem dX8_init_168 : decode cX8_init 168 = .ok (.iastore, 1) := by decide +kernel
theorem dX8_init_169 : decode cX8_init 169 = .ok (.dup, 1) := by decide +kernel
theorem dX8_init_170 : decode cX8_init 170 = .ok (.bipush 6, 2) := by decide +kernel

theorem dX3_longAt_5 : decode cX3_longAt 5 = .ok (.invokestatic 21, 3) := by decide +kernel
theorem dX3_longAt_8 : decode cX3_longAt 8 = .ok (.lreturn, 1) := by decide +kernel
theorem dX3_holds_0 : decode cX3_holds 0 = .ok (.aload_n 0, 1) := by decide +kernel
theorem dX3_holds_1 : decode cX3_holds 1 = .ok (.ifnull 29, 3) := by decide +kernel
theorem dX3_holds_4 : decode cX3_holds 4 = .ok (.iload_n 1, 1) := by decide +kernel
theorem dX3_holds_5 : decode cX3_holds 5 = .ok (.ifCond .lt 25, 3) := by decide +kernel
theorem dX3_holds_8 : decode cX3_holds 8 = .ok (.iload_n 2, 1) := by decide +kernel
theorem dX3_holds_9 : decode cX3_holds 9 = .ok (.ifCond .lt 21, 3) := by decide +kernel
theorem dX3_holds_12 : decode cX3_holds 12 = .ok (.iload_n 1, 1) := by decide +kernel
theorem dX3_holds_13 : decode cX3_holds 13 = .ok (.aload_n 0, 1) := by decide +kernel
theorem dX3_holds_14 : decode cX3_holds 14 = .ok (.arraylength, 1) := by decide +kernel
theorem dX3_holds_15 : decode cX3_holds 15 = .ok (.if_icmp .gt 15, 3) := by decide +kernel
theorem dX3_holds_18 : decode cX3_holds 18 = .ok (.iload_n 2, 1) := by decide +kernel
theorem dX3_holds_19 : decode cX3_holds 19 = .ok (.aload_n 0, 1) := by decide +kernel
theorem dX3_holds_20 : decode cX3_holds 20 = .ok (.arraylength, 1) := by decide +kernel
theorem dX3_holds_21 : decode cX3_holds 21 = .ok (.iload_n 1, 1) := by decide +kernel
theorem dX3_holds_22 : decode cX3_holds 22 = .ok (.isub, 1) := by decide +kernel
theorem dX3_holds_23 : decode cX3_holds 23 = .ok (.if_icmp .gt 7, 3) := by decide +kernel
theorem dX3_holds_26 : decode cX3_holds 26 = .ok (.iconst 1, 1) := by decide +kernel
theorem dX3_holds_27 : decode cX3_holds 27 = .ok (.goto 4, 3) := by decide +kernel
theorem dX3_holds_30 : decode cX3_holds 30 = .ok (.iconst 0, 1) := by decide +kernel
theorem dX3_holds_31 : decode cX3_holds 31 = .ok (.ireturn, 1) := by decide +kernel
theorem dX3_readLong_0 : decode cX3_readLong 0 = .ok (.aload_n 0, 1) := by decide +kernel
theorem dX3_readLong_1 : decode cX3_readLong 1 = .ok (.iload_n 1, 1) := by decide +kernel
theorem dX3_readLong_2 : decode cX3_readLong 2 = .ok (.bipush 8, 2) := by decide +kernel
theorem dX3_readLong_4 : decode cX3_readLong 4 = .ok (.invokestatic 7, 3) := by decide +kernel
theorem dX3_readLong_7 : decode cX3_readLong 7 = .ok (.ifCond .ne 5, 3) := by decide +kernel
theorem dX3_readLong_10 : decode cX3_readLong 10 = .ok (.lconst 0, 1) := by decide +kernel
theorem dX3_readLong_11 : decode cX3_readLong 11 = .ok (.lreturn, 1) := by decide +kernel
theorem dX3_readLong_12 : decode cX3_readLong 12 = .ok (.lconst 0, 1) := by decide +kernel
theorem dX3_readLong_13 : decode cX3_readLong 13 = .ok (.lstore_n 2, 1) := by decide +kernel
theorem dX3_readLong_14 : decode cX3_readLong 14 = .ok (.iconst 0, 1) := by decide +kernel
theorem dX3_readLong_15 : decode cX3_readLong 15 = .ok (.istore 4, 2) := by decide +kernel
theorem dX3_readLong_17 : decode cX3_readLong 17 = .ok (.iload 4, 2) := by decide +kernel
theorem dX3_readLong_19 : decode cX3_readLong 19 = .ok (.bipush 8, 2) := by decide +kernel
theorem dX3_readLong_21 : decode cX3_readLong 21 = .ok (.if_icmp .ge 26, 3) := by decide +kernel
theorem dX3_readLong_24 : decode cX3_readLong 24 = .ok (.lload_n 2, 1) := by decide +kernel
theorem dX3_readLong_25 : decode cX3_readLong 25 = .ok (.bipush 8, 2) := by decide +kernel
theorem dX3_readLong_27 : decode cX3_readLong 27 = .ok (.lshl, 1) := by decide +kernel
theorem dX3_readLong_28 : decode cX3_readLong 28 = .ok (.aload_n 0, 1) := by decide +kernel
theorem dX3_readLong_29 : decode cX3_readLong 29 = .ok (.iload_n 1, 1) := by decide +kernel
theorem dX3_readLong_30 : decode cX3_readLong 30 = .ok (.iload 4, 2) := by decide +kernel
theorem dX3_readLong_32 : decode cX3_readLong 32 = .ok (.iadd, 1) := by decide +kernel
theorem dX3_readLong_33 : decode cX3_readLong 33 = .ok (.baload, 1) := by decide +kernel
theorem dX3_readLong_34 : decode cX3_readLong 34 = .ok (.sipush 255, 3) := by decide +kernel
theorem dX3_readLong_37 : decode cX3_readLong 37 = .ok (.iand, 1) := by decide +kernel
theorem dX3_readLong_38 : decode cX3_readLong 38 = .ok (.i2l, 1) := by decide +kernel
theorem dX3_readLong_39 : decode cX3_readLong 39 = .ok (.lor, 1) := by decide +kernel
theorem dX3_readLong_40 : decode cX3_readLong 40 = .ok (.lstore_n 2, 1) := by decide +kernel
theorem dX3_readLong_41 : decode cX3_readLong 41 = .ok (.iinc 4 1, 3) := by decide +kernel
theorem dX3_readLong_44 : decode cX3_readLong 44 = .ok (.goto (-27), 3) := by decide +kernel
theorem dX3_readLong_47 : decode cX3_readLong 47 = .ok (.lload_n 2, 1) := by decide +kernel
theorem dX3_readLong_48 : decode cX3_readLong 48 = .ok (.lreturn, 1) := by decide +kernel
theorem dX3_writeLong_0 : decode cX3_writeLong 0 = .ok (.aload_n 0, 1) := by decide +kernel
theorem dX3_writeLong_1 : decode cX3_writeLong 1 = .ok (.iload_n 1, 1) := by decide +kernel
theorem dX3_writeLong_2 : decode cX3_writeLong 2 = .ok (.bipush 8, 2) := by decide +kernel
theorem dX3_writeLong_4 : decode cX3_writeLong 4 = .ok (.invokestatic 7, 3) := by decide +kernel
theorem dX3_writeLong_7 : decode cX3_writeLong 7 = .ok (.ifCond .ne 4, 3) := by decide +kernel
theorem dX3_writeLong_10 : decode cX3_writeLong 10 = .ok (.return_, 1) := by decide +kernel
theorem dX3_writeLong_11 : decode cX3_writeLong 11 = .ok (.iconst 0, 1) := by decide +kernel
theorem dX3_writeLong_12 : decode cX3_writeLong 12 = .ok (.istore 4, 2) := by decide +kernel
theorem dX3_writeLong_14 : decode cX3_writeLong 14 = .ok (.iload 4, 2) := by decide +kernel
theorem dX3_writeLong_16 : decode cX3_writeLong 16 = .ok (.bipush 8, 2) := by decide +kernel
theorem dX3_writeLong_18 : decode cX3_writeLong 18 = .ok (.if_icmp .ge 27, 3) := by decide +kernel
theorem dX3_writeLong_21 : decode cX3_writeLong 21 = .ok (.aload_n 0, 1) := by decide +kernel
theorem dX3_writeLong_22 : decode cX3_writeLong 22 = .ok (.iload_n 1, 1) := by decide +kernel
theorem dX3_writeLong_23 : decode cX3_writeLong 23 = .ok (.iload 4, 2) := by decide +kernel
theorem dX3_writeLong_25 : decode cX3_writeLong 25 = .ok (.iadd, 1) := by decide +kernel
theorem dX3_writeLong_26 : decode cX3_writeLong 26 = .ok (.lload_n 2, 1) := by decide +kernel
theorem dX3_writeLong_27 : decode cX3_writeLong 27 = .ok (.bipush 56, 2) := by decide +kernel
theorem dX3_writeLong_29 : decode cX3_writeLong 29 = .ok (.bipush 8, 2) := by decide +kernel
theorem dX3_writeLong_31 : decode cX3_writeLong 31 = .ok (.iload 4, 2) := by decide +kernel
theorem dX3_writeLong_33 : decode cX3_writeLong 33 = .ok (.imul, 1) := by decide +kernel
theorem dX3_writeLong_34 : decode cX3_writeLong 34 = .ok (.isub, 1) := by decide +kernel
theorem dX3_writeLong_35 : decode cX3_writeLong 35 = .ok (.lushr, 1) := by decide +kernel
theorem dX3_writeLong_36 : decode cX3_writeLong 36 = .ok (.l2i, 1) := by decide +kernel
theorem dX3_writeLong_37 : decode cX3_writeLong 37 = .ok (.i2b, 1) := by decide +kernel
theorem dX3_writeLong_38 : decode cX3_writeLong 38 = .ok (.bastore, 1) := by decide +kernel
theorem dX3_writeLong_39 : decode cX3_writeLong 39 = .ok (.iinc 4 1, 3) := by decide +kernel
theorem dX3_writeLong_42 : decode cX3_writeLong 42 = .ok (.goto (-28), 3) := by decide +kernel
theorem dX3_writeLong_45 : decode cX3_writeLong 45 = .ok (.return_, 1) := by decide +kernel
theorem dX3_same_0 : decode cX3_same 0 = .ok (.aload_n 0, 1) := by decide +kernel
theorem dX3_same_1 : decode cX3_same 1 = .ok (.iload_n 1, 1) := by decide +kernel
theorem dX3_same_2 : decode cX3_same 2 = .ok (.iload 4, 2) := by decide +kernel
theorem dX3_same_4 : decode cX3_same 4 = .ok (.invokestatic 7, 3) := by decide +kernel
theorem dX3_same_7 : decode cX3_same 7 = .ok (.ifCond .eq 13, 3) := by decide +kernel
theorem dX3_same_10 : decode cX3_same 10 = .ok (.aload_n 2, 1) := by decide +kernel
theorem dX3_same_11 : decode cX3_same 11 = .ok (.iload_n 3, 1) := by decide +kernel
theorem dX3_same_12 : decode cX3_same 12 = .ok (.iload 4, 2) := by decide +kernel
theorem dX3_same_14 : decode cX3_same 14 = .ok (.invokestatic 7, 3) := by decide +kernel
theorem dX3_same_17 : decode cX3_same 17 = .ok (.ifCond .ne 5, 3) := by decide +kernel
theorem dX3_same_20 : decode cX3_same 20 = .ok (.iconst 0, 1) := by decide +kernel
theorem dX3_same_21 : decode cX3_same 21 = .ok (.ireturn, 1) := by decide +kernel
theorem dX3_same_22 : decode cX3_same 22 = .ok (.iconst 0, 1) := by decide +kernel
theorem dX3_same_23 : decode cX3_same 23 = .ok (.istore 5, 2) := by decide +kernel
theorem dX3_same_25 : decode cX3_same 25 = .ok (.iload 5, 2) := by decide +kernel
theorem dX3_same_27 : decode cX3_same 27 = .ok (.iload 4, 2) := by decide +kernel
theorem dX3_same_29 : decode cX3_same 29 = .ok (.if_icmp .ge 26, 3) := by decide +kernel
theorem dX3_same_32 : decode cX3_same 32 = .ok (.aload_n 0, 1) := by decide +kernel
theorem dX3_same_33 : decode cX3_same 33 = .ok (.iload_n 1, 1) := by decide +kernel
theorem dX3_same_34 : decode cX3_same 34 = .ok (.iload 5, 2) := by decide +kernel
theorem dX3_same_36 : decode cX3_same 36 = .ok (.iadd, 1) := by decide +kernel
theorem dX3_same_37 : decode cX3_same 37 = .ok (.baload, 1) := by decide +kernel
theorem dX3_same_38 : decode cX3_same 38 = .ok (.aload_n 2, 1) := by decide +kernel
theorem dX3_same_39 : decode cX3_same 39 = .ok (.iload_n 3, 1) := by decide +kernel
theorem dX3_same_40 : decode cX3_same 40 = .ok (.iload 5, 2) := by decide +kernel
theorem dX3_same_42 : decode cX3_same 42 = .ok (.iadd, 1) := by decide +kernel
theorem dX3_same_43 : decode cX3_same 43 = .ok (.baload, 1) := by decide +kernel
theorem dX3_same_44 : decode cX3_same 44 = .ok (.if_icmp .eq 5, 3) := by decide +kernel
theorem dX3_same_47 : decode cX3_same 47 = .ok (.iconst 0, 1) := by decide +kernel
theorem dX3_same_48 : decode cX3_same 48 = .ok (.ireturn, 1) := by decide +kernel
theorem dX3_same_49 : decode cX3_same 49 = .ok (.iinc 5 1, 3) := by decide +kernel
theorem dX3_same_52 : decode cX3_same 52 = .ok (.goto (-27), 3) := by decide +kernel
theorem dX3_same_55 : decode cX3_same 55 = .ok (.iconst 1, 1) := by decide +kernel
theorem dX3_same_56 : decode cX3_same 56 = .ok (.ireturn, 1) := by decide +kernel
theorem dX3_copy_0 : decode cX3_copy 0 = .ok (.aload_n 0, 1) := by decide +kernel
theorem dX3_copy_1 : decode cX3_copy 1 = .ok (.iload_n 1, 1) := by decide +kernel
theorem dX3_copy_2 : decode cX3_copy 2 = .ok (.iload 4, 2) := by decide +kernel
theorem dX3_copy_4 : decode cX3_copy 4 = .ok (.invokestatic 7, 3) := by decide +kernel
theorem dX3_copy_7 : decode cX3_copy 7 = .ok (.ifCond .eq 22, 3) := by decide +kernel
theorem dX3_copy_10 : decode cX3_copy 10 = .ok (.aload_n 2, 1) := by decide +kernel
theorem dX3_copy_11 : decode cX3_copy 11 = .ok (.iload_n 3, 1) := by decide +kernel
theorem dX3_copy_12 : decode cX3_copy 12 = .ok (.iload 4, 2) := by decide +kernel
theorem dX3_copy_14 : decode cX3_copy 14 = .ok (.invokestatic 7, 3) := by decide +kernel
theorem dX3_copy_17 : decode cX3_copy 17 = .ok (.ifCond .eq 12, 3) := by decide +kernel
theorem dX3_copy_20 : decode cX3_copy 20 = .ok (.aload_n 0, 1) := by decide +kernel
theorem dX3_copy_21 : decode cX3_copy 21 = .ok (.iload_n 1, 1) := by decide +kernel
theorem dX3_copy_22 : decode cX3_copy 22 = .ok (.aload_n 2, 1) := by decide +kernel
theorem dX3_copy_23 : decode cX3_copy 23 = .ok (.iload_n 3, 1) := by decide +kernel
theorem dX3_copy_24 : decode cX3_copy 24 = .ok (.iload 4, 2) := by decide +kernel
theorem dX3_copy_26 : decode cX3_copy 26 = .ok (.invokestatic 25, 3) := by decide +kernel
theorem dX3_copy_29 : decode cX3_copy 29 = .ok (.return_, 1) := by decide +kernel
theorem dX4_init_0 : decode cX4_init 0 = .ok (.aload_n 0, 1) := by decide +kernel
theorem dX4_init_1 : decode cX4_init 1 = .ok (.invokespecial 3, 3) := by decide +kernel
theorem dX4_init_4 : decode cX4_init 4 = .ok (.aload_n 0, 1) := by decide +kernel
theorem dX4_init_5 : decode cX4_init 5 = .ok (.bipush 8, 2) := by decide +kernel
theorem dX4_init_7 : decode cX4_init 7 = .ok (.newarray .int, 2) := by decide +kernel
theorem dX4_init_9 : decode cX4_init 9 = .ok (.putfield 9, 3) := by decide +kernel
theorem dX4_init_12 : decode cX4_init 12 = .ok (.aload_n 0, 1) := by decide +kernel
theorem dX4_init_13 : decode cX4_init 13 = .ok (.bipush 64, 2) := by decide +kernel
theorem dX4_init_15 : decode cX4_init 15 = .ok (.newarray .int, 2) := by decide +kernel
theorem dX4_init_17 : decode cX4_init 17 = .ok (.putfield 15, 3) := by decide +kernel
theorem dX4_init_20 : decode cX4_init 20 = .ok (.return_, 1) := by decide +kernel
theorem dX4_begin_0 : decode cX4_begin 0 = .ok (.getstatic 18, 3) := by decide +kernel
theorem dX4_begin_3 : decode cX4_begin 3 = .ok (.iconst 0, 1) := by decide +kernel
theorem dX4_begin_4 : decode cX4_begin 4 = .ok (.aload_n 0, 1) := by decide +kernel
theorem dX4_begin_5 : decode cX4_begin 5 = .ok (.getfield 9, 3) := by decide +kernel
theorem dX4_begin_8 : decode cX4_begin 8 = .ok (.iconst 0, 1) := by decide +kernel
theorem dX4_begin_9 : decode cX4_begin 9 = .ok (.bipush 8, 2) := by decide +kernel
theorem dX4_begin_11 : decode cX4_begin 11 = .ok (.invokestatic 21, 3) := by decide +kernel
theorem dX4_begin_14 : decode cX4_begin 14 = .ok (.aload_n 0, 1) := by decide +kernel
theorem dX4_begin_15 : decode cX4_begin 15 = .ok (.iconst 0, 1) := by decide +kernel
theorem dX4_begin_16 : decode cX4_begin 16 = .ok (.putfield 27, 3) := by decide +kernel
theorem dX4_begin_19 : decode cX4_begin 19 = .ok (.aload_n 0, 1) := by decide +kernel
theorem dX4_begin_20 : decode cX4_begin 20 = .ok (.iconst 0, 1) := by decide +kernel
theorem dX4_begin_21 : decode cX4_begin 21 = .ok (.putfield 31, 3) := by decide +kernel
theorem dX4_begin_24 : decode cX4_begin 24 = .ok (.return_, 1) := by decide +kernel
theorem dX4_add_0 : decode cX4_add 0 = .ok (.aload_n 0, 1) := by decide +kernel
theorem dX4_add_1 : decode cX4_add 1 = .ok (.iload_n 1, 1) := by decide +kernel
theorem dX4_add_2 : decode cX4_add 2 = .ok (.invokevirtual 34, 3) := by decide +kernel
theorem dX4_add_5 : decode cX4_add 5 = .ok (.aload_n 0, 1) := by decide +kernel
theorem dX4_add_6 : decode cX4_add 6 = .ok (.getfield 27, 3) := by decide +kernel
theorem dX4_add_9 : decode cX4_add 9 = .ok (.bipush 64, 2) := by decide +kernel
theorem dX4_add_11 : decode cX4_add 11 = .ok (.if_icmp .lt 7, 3) := by decide +kernel
theorem dX4_add_14 : decode cX4_add 14 = .ok (.aload_n 0, 1) := by decide +kernel
theorem dX4_add_15 : decode cX4_add 15 = .ok (.invokevirtual 38, 3) := by decide +kernel
theorem dX4_add_18 : decode cX4_add 18 = .ok (.return_, 1) := by decide +kernel
theorem dX4_addRow_0 : decode cX4_addRow 0 = .ok (.aload_n 1, 1) := by decide +kernel
theorem dX4_addRow_1 : decode cX4_addRow 1 = .ok (.iload_n 2, 1) := by decide +kernel
theorem dX4_addRow_2 : decode cX4_addRow 2 = .ok (.iload_n 3, 1) := by decide +kernel
theorem dX4_addRow_3 : decode cX4_addRow 3 = .ok (.invokestatic 41, 3) := by decide +kernel
theorem dX4_addRow_6 : decode cX4_addRow 6 = .ok (.ifCond .ne 4, 3) := by decide +kernel
theorem dX4_addRow_9 : decode cX4_addRow 9 = .ok (.return_, 1) := by decide +kernel
theorem dX4_addRow_10 : decode cX4_addRow 10 = .ok (.iconst 0, 1) := by decide +kernel
theorem dX4_addRow_11 : decode cX4_addRow 11 = .ok (.istore 4, 2) := by decide +kernel
theorem dX4_addRow_13 : decode cX4_addRow 13 = .ok (.iload 4, 2) := by decide +kernel
theorem dX4_addRow_15 : decode cX4_addRow 15 = .ok (.iload_n 3, 1) := by decide +kernel
theorem dX4_addRow_16 : decode cX4_addRow 16 = .ok (.if_icmp .ge 32, 3) := by decide +kernel
theorem dX4_addRow_19 : decode cX4_addRow 19 = .ok (.aload_n 0, 1) := by decide +kernel
theorem dX4_addRow_20 : decode cX4_addRow 20 = .ok (.aload_n 1, 1) := by decide +kernel
theorem dX4_addRow_21 : decode cX4_addRow 21 = .ok (.iload_n 2, 1) := by decide +kernel
theorem dX4_addRow_22 : decode cX4_addRow 22 = .ok (.iload 4, 2) := by decide +kernel
theorem dX4_addRow_24 : decode cX4_addRow 24 = .ok (.iadd, 1) := by decide +kernel
theorem dX4_addRow_25 : decode cX4_addRow 25 = .ok (.baload, 1) := by decide +kernel
theorem dX4_addRow_26 : decode cX4_addRow 26 = .ok (.invokevirtual 34, 3) := by decide +kernel
theorem dX4_addRow_29 : decode cX4_addRow 29 = .ok (.aload_n 0, 1) := by decide +kernel
theorem dX4_addRow_30 : decode cX4_addRow 30 = .ok (.getfield 27, 3) := by decide +kernel
theorem dX4_addRow_33 : decode cX4_addRow 33 = .ok (.bipush 64, 2) := by decide +kernel
theorem dX4_addRow_35 : decode cX4_addRow 35 = .ok (.if_icmp .lt 7, 3) := by decide +kernel
theorem dX4_addRow_38 : decode cX4_addRow 38 = .ok (.aload_n 0, 1) := by decide +kernel
theorem dX4_addRow_39 : decode cX4_addRow 39 = .ok (.invokevirtual 38, 3) := by decide +kernel
theorem dX4_addRow_42 : decode cX4_addRow 42 = .ok (.iinc 4 1, 3) := by decide +kernel
theorem dX4_addRow_45 : decode cX4_addRow 45 = .ok (.goto (-32), 3) := by decide +kernel
theorem dX4_addRow_48 : decode cX4_addRow 48 = .ok (.return_, 1) := by decide +kernel
theorem dX4_put_0 : decode cX4_put 0 = .ok (.aload_n 0, 1) := by decide +kernel
theorem dX4_put_1 : decode cX4_put 1 = .ok (.getfield 27, 3) := by decide +kernel
theorem dX4_put_4 : decode cX4_put 4 = .ok (.iconst 2, 1) := by decide +kernel
theorem dX4_put_5 : decode cX4_put 5 = .ok (.ishr, 1) := by decide +kernel
theorem dX4_put_6 : decode cX4_put 6 = .ok (.bipush 15, 2) := by decide +kernel
theorem dX4_put_8 : decode cX4_put 8 = .ok (.iand, 1) := by decide +kernel
theorem dX4_put_9 : decode cX4_put 9 = .ok (.istore_n 2, 1) := by decide +kernel
theorem dX4_put_10 : decode cX4_put 10 = .ok (.aload_n 0, 1) := by decide +kernel
theorem dX4_put_11 : decode cX4_put 11 = .ok (.getfield 15, 3) := by decide +kernel
theorem dX4_put_14 : decode cX4_put 14 = .ok (.iload_n 2, 1) := by decide +kernel
theorem dX4_put_15 : decode cX4_put 15 = .ok (.aload_n 0, 1) := by decide +kernel
theorem dX4_put_16 : decode cX4_put 16 = .ok (.getfield 15, 3) := by decide +kernel
theorem dX4_put_19 : decode cX4_put 19 = .ok (.iload_n 2, 1) := by decide +kernel
theorem dX4_put_20 : decode cX4_put 20 = .ok (.iaload, 1) := by decide +kernel
theorem dX4_put_21 : decode cX4_put 21 = .ok (.bipush 8, 2) := by decide +kernel
theorem dX4_put_23 : decode cX4_put 23 = .ok (.ishl, 1) := by decide +kernel
theorem dX4_put_24 : decode cX4_put 24 = .ok (.iload_n 1, 1) := by decide +kernel
theorem dX4_put_25 : decode cX4_put 25 = .ok (.sipush 255, 3) := by decide +kernel
theorem dX4_put_28 : decode cX4_put 28 = .ok (.iand, 1) := by decide +kernel
theorem dX4_put_29 : decode cX4_put 29 = .ok (.ior, 1) := by decide +kernel
theorem dX4_put_30 : decode cX4_put 30 = .ok (.iastore, 1) := by decide +kernel
theorem dX4_put_31 : decode cX4_put 31 = .ok (.aload_n 0, 1) := by decide +kernel
theorem dX4_put_32 : decode cX4_put 32 = .ok (.dup, 1) := by decide +kernel
theorem dX4_put_33 : decode cX4_put 33 = .ok (.getfield 31, 3) := by decide +kernel
theorem dX4_put_36 : decode cX4_put 36 = .ok (.iconst 1, 1) := by decide +kernel
theorem dX4_put_37 : decode cX4_put 37 = .ok (.iadd, 1) := by decide +kernel
theorem dX4_put_38 : decode cX4_put 38 = .ok (.putfield 31, 3) := by decide +kernel
theorem dX4_put_41 : decode cX4_put 41 = .ok (.aload_n 0, 1) := by decide +kernel
theorem dX4_put_42 : decode cX4_put 42 = .ok (.dup, 1) := by decide +kernel
theorem dX4_put_43 : decode cX4_put 43 = .ok (.getfield 27, 3) := by decide +kernel
theorem dX4_put_46 : decode cX4_put 46 = .ok (.iconst 1, 1) := by decide +kernel
theorem dX4_put_47 : decode cX4_put 47 = .ok (.iadd, 1) := by decide +kernel
theorem dX4_put_48 : decode cX4_put 48 = .ok (.putfield 27, 3) := by decide +kernel
theorem dX4_put_51 : decode cX4_put 51 = .ok (.return_, 1) := by decide +kernel
theorem dX4_finish_0 : decode cX4_finish 0 = .ok (.aload_n 0, 1) := by decide +kernel
theorem dX4_finish_1 : decode cX4_finish 1 = .ok (.getfield 31, 3) := by decide +kernel
theorem dX4_finish_4 : decode cX4_finish 4 = .ok (.bipush 8, 2) := by decide +kernel
theorem dX4_finish_6 : decode cX4_finish 6 = .ok (.imul, 1) := by decide +kernel
theorem dX4_finish_7 : decode cX4_finish 7 = .ok (.istore_n 2, 1) := by decide +kernel
theorem dX4_finish_8 : decode cX4_finish 8 = .ok (.aload_n 0, 1) := by decide +kernel
theorem dX4_finish_9 : decode cX4_finish 9 = .ok (.getfield 27, 3) := by decide +kernel
theorem dX4_finish_12 : decode cX4_finish 12 = .ok (.bipush 56, 2) := by decide +kernel
theorem dX4_finish_14 : decode cX4_finish 14 = .ok (.if_icmp .ge 13, 3) := by decide +kernel
theorem dX4_finish_17 : decode cX4_finish 17 = .ok (.bipush 64, 2) := by decide +kernel
theorem dX4_finish_19 : decode cX4_finish 19 = .ok (.aload_n 0, 1) := by decide +kernel
theorem dX4_finish_20 : decode cX4_finish 20 = .ok (.getfield 27, 3) := by decide +kernel
theorem dX4_finish_23 : decode cX4_finish 23 = .ok (.isub, 1) := by decide +kernel
theorem dX4_finish_24 : decode cX4_finish 24 = .ok (.goto 11, 3) := by decide +kernel
theorem dX4_finish_27 : decode cX4_finish 27 = .ok (.sipush 128, 3) := by decide +kernel
theorem dX4_finish_30 : decode cX4_finish 30 = .ok (.aload_n 0, 1) := by decide +kernel
theorem dX4_finish_31 : decode cX4_finish 31 = .ok (.getfield 27, 3) := by decide +kernel
theorem dX4_finish_34 : decode cX4_finish 34 = .ok (.isub, 1) := by decide +kernel
theorem dX4_finish_35 : decode cX4_finish 35 = .ok (.istore_n 3, 1) := by decide +kernel
theorem dX4_finish_36 : decode cX4_finish 36 = .ok (.iload_n 3, 1) := by decide +kernel
theorem dX4_finish_37 : decode cX4_finish 37 = .ok (.istore 4, 2) := by decide +kernel
theorem dX4_finish_39 : decode cX4_finish 39 = .ok (.iload 4, 2) := by decide +kernel
theorem dX4_finish_41 : decode cX4_finish 41 = .ok (.ifCond .le 61, 3) := by decide +kernel
theorem dX4_finish_44 : decode cX4_finish 44 = .ok (.iload 4, 2) := by decide +kernel
theorem dX4_finish_46 : decode cX4_finish 46 = .ok (.iconst 4, 1) := by decide +kernel
theorem dX4_finish_47 : decode cX4_finish 47 = .ok (.if_icmp .le 7, 3) := by decide +kernel
theorem dX4_finish_50 : decode cX4_finish 50 = .ok (.iconst 0, 1) := by decide +kernel
theorem dX4_finish_51 : decode cX4_finish 51 = .ok (.goto 12, 3) := by decide +kernel
theorem dX4_finish_54 : decode cX4_finish 54 = .ok (.iload_n 2, 1) := by decide +kernel
theorem dX4_finish_55 : decode cX4_finish 55 = .ok (.bipush 8, 2) := by decide +kernel
theorem dX4_finish_57 : decode cX4_finish 57 = .ok (.iload 4, 2) := by decide +kernel
theorem dX4_finish_59 : decode cX4_finish 59 = .ok (.iconst 1, 1) := by decide +kernel
theorem dX4_finish_60 : decode cX4_finish 60 = .ok (.isub, 1) := by decide +kernel
theorem dX4_finish_61 : decode cX4_finish 61 = .ok (.imul, 1) := by decide +kernel
theorem dX4_finish_62 : decode cX4_finish 62 = .ok (.iushr, 1) := by decide +kernel
theorem dX4_finish_63 : decode cX4_finish 63 = .ok (.istore 5, 2) := by decide +kernel
theorem dX4_finish_65 : decode cX4_finish 65 = .ok (.aload_n 0, 1) := by decide +kernel
theorem dX4_finish_66 : decode cX4_finish 66 = .ok (.iload 4, 2) := by decide +kernel
theorem dX4_finish_68 : decode cX4_finish 68 = .ok (.iload_n 3, 1) := by decide +kernel
theorem dX4_finish_69 : decode cX4_finish 69 = .ok (.if_icmp .ne 9, 3) := by decide +kernel
theorem dX4_finish_72 : decode cX4_finish 72 = .ok (.sipush 128, 3) := by decide +kernel
theorem dX4_finish_75 : decode cX4_finish 75 = .ok (.goto 5, 3) := by decide +kernel
theorem dX4_finish_78 : decode cX4_finish 78 = .ok (.iload 5, 2) := by decide +kernel
theorem dX4_finish_80 : decode cX4_finish 80 = .ok (.invokevirtual 34, 3) := by decide +kernel
theorem dX4_finish_83 : decode cX4_finish 83 = .ok (.aload_n 0, 1) := by decide +kernel
theorem dX4_finish_84 : decode cX4_finish 84 = .ok (.getfield 27, 3) := by decide +kernel
theorem dX4_finish_87 : decode cX4_finish 87 = .ok (.bipush 64, 2) := by decide +kernel
theorem dX4_finish_89 : decode cX4_finish 89 = .ok (.if_icmp .lt 7, 3) := by decide +kernel
theorem dX4_finish_92 : decode cX4_finish 92 = .ok (.aload_n 0, 1) := by decide +kernel
theorem dX4_finish_93 : decode cX4_finish 93 = .ok (.invokevirtual 38, 3) := by decide +kernel
theorem dX4_finish_96 : decode cX4_finish 96 = .ok (.iinc 4 (-1), 3) := by decide +kernel
theorem dX4_finish_99 : decode cX4_finish 99 = .ok (.goto (-60), 3) := by decide +kernel
theorem dX4_finish_102 : decode cX4_finish 102 = .ok (.aload_n 1, 1) := by decide +kernel
theorem dX4_finish_103 : decode cX4_finish 103 = .ok (.iconst 0, 1) := by decide +kernel
theorem dX4_finish_104 : decode cX4_finish 104 = .ok (.bipush 32, 2) := by decide +kernel
theorem dX4_finish_106 : decode cX4_finish 106 = .ok (.invokestatic 41, 3) := by decide +kernel
theorem dX4_finish_109 : decode cX4_finish 109 = .ok (.ifCond .ne 4, 3) := by decide +kernel
theorem dX4_finish_112 : decode cX4_finish 112 = .ok (.return_, 1) := by decide +kernel
theorem dX4_finish_113 : decode cX4_finish 113 = .ok (.iconst 0, 1) := by decide +kernel
theorem dX4_finish_114 : decode cX4_finish 114 = .ok (.istore 4, 2) := by decide +kernel
theorem dX4_finish_116 : decode cX4_finish 116 = .ok (.iload 4, 2) := by decide +kernel
theorem dX4_finish_118 : decode cX4_finish 118 = .ok (.bipush 32, 2) := by decide +kernel
theorem dX4_finish_120 : decode cX4_finish 120 = .ok (.if_icmp .ge 34, 3) := by decide +kernel
theorem dX4_finish_123 : decode cX4_finish 123 = .ok (.aload_n 1, 1) := by decide +kernel
theorem dX4_finish_124 : decode cX4_finish 124 = .ok (.iload 4, 2) := by decide +kernel
theorem dX4_finish_126 : decode cX4_finish 126 = .ok (.aload_n 0, 1) := by decide +kernel
theorem dX4_finish_127 : decode cX4_finish 127 = .ok (.getfield 9, 3) := by decide +kernel
theorem dX4_finish_130 : decode cX4_finish 130 = .ok (.iload 4, 2) := by decide +kernel
theorem dX4_finish_132 : decode cX4_finish 132 = .ok (.iconst 2, 1) := by decide +kernel
theorem dX4_finish_133 : decode cX4_finish 133 = .ok (.ishr, 1) := by decide +kernel
theorem dX4_finish_134 : decode cX4_finish 134 = .ok (.iaload, 1) := by decide +kernel
theorem dX4_finish_135 : decode cX4_finish 135 = .ok (.bipush 24, 2) := by decide +kernel
theorem dX4_finish_137 : decode cX4_finish 137 = .ok (.bipush 8, 2) := by decide +kernel
theorem dX4_finish_139 : decode cX4_finish 139 = .ok (.iload 4, 2) := by decide +kernel
theorem dX4_finish_141 : decode cX4_finish 141 = .ok (.iconst 3, 1) := by decide +kernel
theorem dX4_finish_142 : decode cX4_finish 142 = .ok (.iand, 1) := by decide +kernel
theorem dX4_finish_143 : decode cX4_finish 143 = .ok (.imul, 1) := by decide +kernel
theorem dX4_finish_144 : decode cX4_finish 144 = .ok (.isub, 1) := by decide +kernel
theorem dX4_finish_145 : decode cX4_finish 145 = .ok (.iushr, 1) := by decide +kernel
theorem dX4_finish_146 : decode cX4_finish 146 = .ok (.i2b, 1) := by decide +kernel
theorem dX4_finish_147 : decode cX4_finish 147 = .ok (.bastore, 1) := by decide +kernel
theorem dX4_finish_148 : decode cX4_finish 148 = .ok (.iinc 4 1, 3) := by decide +kernel
theorem dX4_finish_151 : decode cX4_finish 151 = .ok (.goto (-35), 3) := by decide +kernel
theorem dX4_finish_154 : decode cX4_finish 154 = .ok (.return_, 1) := by decide +kernel
theorem dX4_node_0 : decode cX4_node 0 = .ok (.aload_n 0, 1) := by decide +kernel
theorem dX4_node_1 : decode cX4_node 1 = .ok (.invokevirtual 47, 3) := by decide +kernel
theorem dX4_node_4 : decode cX4_node 4 = .ok (.aload_n 0, 1) := by decide +kernel
theorem dX4_node_5 : decode cX4_node 5 = .ok (.iconst 1, 1) := by decide +kernel
theorem dX4_node_6 : decode cX4_node 6 = .ok (.invokevirtual 50, 3) := by decide +kernel
theorem dX4_node_9 : decode cX4_node 9 = .ok (.aload_n 0, 1) := by decide +kernel
theorem dX4_node_10 : decode cX4_node 10 = .ok (.aload_n 1, 1) := by decide +kernel
theorem dX4_node_11 : decode cX4_node 11 = .ok (.iload_n 2, 1) := by decide +kernel
theorem dX4_node_12 : decode cX4_node 12 = .ok (.bipush 32, 2) := by decide +kernel
theorem dX4_node_14 : decode cX4_node 14 = .ok (.invokevirtual 53, 3) := by decide +kernel
theorem dX4_node_17 : decode cX4_node 17 = .ok (.aload_n 0, 1) := by decide +kernel
theorem dX4_node_18 : decode cX4_node 18 = .ok (.aload_n 3, 1) := by decide +kernel
theorem dX4_node_19 : decode cX4_node 19 = .ok (.iload 4, 2) := by decide +kernel
theorem dX4_node_21 : decode cX4_node 21 = .ok (.bipush 32, 2) := by decide +kernel
theorem dX4_node_23 : decode cX4_node 23 = .ok (.invokevirtual 53, 3) := by decide +kernel
theorem dX4_node_26 : decode cX4_node 26 = .ok (.aload_n 0, 1) := by decide +kernel
theorem dX4_node_27 : decode cX4_node 27 = .ok (.aload 5, 2) := by decide +kernel
theorem dX4_node_29 : decode cX4_node 29 = .ok (.invokevirtual 57, 3) := by decide +kernel
theorem dX4_node_32 : decode cX4_node 32 = .ok (.return_, 1) := by decide +kernel
theorem dX4_mix_0 : decode cX4_mix 0 = .ok (.bipush 16, 2) := by decide +kernel
theorem dX4_mix_2 : decode cX4_mix 2 = .ok (.istore_n 1, 1) := by decide +kernel
theorem dX4_mix_3 : decode cX4_mix 3 = .ok (.iload_n 1, 1) := by decide +kernel
theorem dX4_mix_4 : decode cX4_mix 4 = .ok (.bipush 64, 2) := by decide +kernel
theorem dX4_mix_6 : decode cX4_mix 6 = .ok (.if_icmp .ge 110, 3) := by decide +kernel
theorem dX4_mix_9 : decode cX4_mix 9 = .ok (.aload_n 0, 1) := by decide +kernel
theorem dX4_mix_10 : decode cX4_mix 10 = .ok (.getfield 15, 3) := by decide +kernel
theorem dX4_mix_13 : decode cX4_mix 13 = .ok (.iload_n 1, 1) := by decide +kernel
theorem dX4_mix_14 : decode cX4_mix 14 = .ok (.bipush 15, 2) := by decide +kernel
theorem dX4_mix_16 : decode cX4_mix 16 = .ok (.isub, 1) := by decide +kernel
theorem dX4_mix_17 : decode cX4_mix 17 = .ok (.iaload, 1) := by decide +kernel
theorem dX4_mix_18 : decode cX4_mix 18 = .ok (.istore_n 2, 1) := by decide +kernel
theorem dX4_mix_19 : decode cX4_mix 19 = .ok (.aload_n 0, 1) := by decide +kernel
theorem dX4_mix_20 : decode cX4_mix 20 = .ok (.getfield 15, 3) := by decide +kernel
theorem dX4_mix_23 : decode cX4_mix 23 = .ok (.iload_n 1, 1) := by decide +kernel
theorem dX4_mix_24 : decode cX4_mix 24 = .ok (.iconst 2, 1) := by decide +kernel
theorem dX4_mix_25 : decode cX4_mix 25 = .ok (.isub, 1) := by decide +kernel
theorem dX4_mix_26 : decode cX4_mix 26 = .ok (.iaload, 1) := by decide +kernel
theorem dX4_mix_27 : decode cX4_mix 27 = .ok (.istore_n 3, 1) := by decide +kernel
theorem dX4_mix_28 : decode cX4_mix 28 = .ok (.iload_n 2, 1) := by decide +kernel
theorem dX4_mix_29 : decode cX4_mix 29 = .ok (.bipush 7, 2) := by decide +kernel
theorem dX4_mix_31 : decode cX4_mix 31 = .ok (.iushr, 1) := by decide +kernel
theorem dX4_mix_32 : decode cX4_mix 32 = .ok (.iload_n 2, 1) := by decide +kernel
theorem dX4_mix_33 : decode cX4_mix 33 = .ok (.bipush 25, 2) := by decide +kernel
theorem dX4_mix_35 : decode cX4_mix 35 = .ok (.ishl, 1) := by decide +kernel
theorem dX4_mix_36 : decode cX4_mix 36 = .ok (.ior, 1) := by decide +kernel
theorem dX4_mix_37 : decode cX4_mix 37 = .ok (.iload_n 2, 1) := by decide +kernel
theorem dX4_mix_38 : decode cX4_mix 38 = .ok (.bipush 18, 2) := by decide +kernel
theorem dX4_mix_40 : decode cX4_mix 40 = .ok (.iushr, 1) := by decide +kernel
theorem dX4_mix_41 : decode cX4_mix 41 = .ok (.iload_n 2, 1) := by decide +kernel
theorem dX4_mix_42 : decode cX4_mix 42 = .ok (.bipush 14, 2) := by decide +kernel
theorem dX4_mix_44 : decode cX4_mix 44 = .ok (.ishl, 1) := by decide +kernel
theorem dX4_mix_45 : decode cX4_mix 45 = .ok (.ior, 1) := by decide +kernel
theorem dX4_mix_46 : decode cX4_mix 46 = .ok (.ixor, 1) := by decide +kernel
theorem dX4_mix_47 : decode cX4_mix 47 = .ok (.iload_n 2, 1) := by decide +kernel
theorem dX4_mix_48 : decode cX4_mix 48 = .ok (.iconst 3, 1) := by decide +kernel
theorem dX4_mix_49 : decode cX4_mix 49 = .ok (.iushr, 1) := by decide +kernel
theorem dX4_mix_50 : decode cX4_mix 50 = .ok (.ixor, 1) := by decide +kernel
theorem dX4_mix_51 : decode cX4_mix 51 = .ok (.istore 4, 2) := by decide +kernel
theorem dX4_mix_53 : decode cX4_mix 53 = .ok (.iload_n 3, 1) := by decide +kernel
theorem dX4_mix_54 : decode cX4_mix 54 = .ok (.bipush 17, 2) := by decide +kernel
theorem dX4_mix_56 : decode cX4_mix 56 = .ok (.iushr, 1) := by decide +kernel
theorem dX4_mix_57 : decode cX4_mix 57 = .ok (.iload_n 3, 1) := by decide +kernel
theorem dX4_mix_58 : decode cX4_mix 58 = .ok (.bipush 15, 2) := by decide +kernel
theorem dX4_mix_60 : decode cX4_mix 60 = .ok (.ishl, 1) := by decide +kernel
theorem dX4_mix_61 : decode cX4_mix 61 = .ok (.ior, 1) := by decide +kernel
theorem dX4_mix_62 : decode cX4_mix 62 = .ok (.iload_n 3, 1) := by decide +kernel
theorem dX4_mix_63 : decode cX4_mix 63 = .ok (.bipush 19, 2) := by decide +kernel
theorem dX4_mix_65 : decode cX4_mix 65 = .ok (.iushr, 1) := by decide +kernel
theorem dX4_mix_66 : decode cX4_mix 66 = .ok (.iload_n 3, 1) := by decide +kernel
theorem dX4_mix_67 : decode cX4_mix 67 = .ok (.bipush 13, 2) := by decide +kernel
theorem dX4_mix_69 : decode cX4_mix 69 = .ok (.ishl, 1) := by decide +kernel
theorem dX4_mix_70 : decode cX4_mix 70 = .ok (.ior, 1) := by decide +kernel
theorem dX4_mix_71 : decode cX4_mix 71 = .ok (.ixor, 1) := by decide +kernel
theorem dX4_mix_72 : decode cX4_mix 72 = .ok (.iload_n 3, 1) := by decide +kernel
theorem dX4_mix_73 : decode cX4_mix 73 = .ok (.bipush 10, 2) := by decide +kernel
theorem dX4_mix_75 : decode cX4_mix 75 = .ok (.iushr, 1) := by decide +kernel
theorem dX4_mix_76 : decode cX4_mix 76 = .ok (.ixor, 1) := by decide +kernel
theorem dX4_mix_77 : decode cX4_mix 77 = .ok (.istore 5, 2) := by decide +kernel
theorem dX4_mix_79 : decode cX4_mix 79 = .ok (.aload_n 0, 1) := by decide +kernel
theorem dX4_mix_80 : decode cX4_mix 80 = .ok (.getfield 15, 3) := by decide +kernel
theorem dX4_mix_83 : decode cX4_mix 83 = .ok (.iload_n 1, 1) := by decide +kernel
theorem dX4_mix_84 : decode cX4_mix 84 = .ok (.aload_n 0, 1) := by decide +kernel
theorem dX4_mix_85 : decode cX4_mix 85 = .ok (.getfield 15, 3) := by decide +kernel
theorem dX4_mix_88 : decode cX4_mix 88 = .ok (.iload_n 1, 1) := by decide +kernel
theorem dX4_mix_89 : decode cX4_mix 89 = .ok (.bipush 16, 2) := by decide +kernel
theorem dX4_mix_91 : decode cX4_mix 91 = .ok (.isub, 1) := by decide +kernel
theorem dX4_mix_92 : decode cX4_mix 92 = .ok (.iaload, 1) := by decide +kernel
theorem dX4_mix_93 : decode cX4_mix 93 = .ok (.iload 4, 2) := by decide +kernel
theorem dX4_mix_95 : decode cX4_mix 95 = .ok (.iadd, 1) := by decide +kernel
theorem dX4_mix_96 : decode cX4_mix 96 = .ok (.aload_n 0, 1) := by decide +kernel
theorem dX4_mix_97 : decode cX4_mix 97 = .ok (.getfield 15, 3) := by decide +kernel
theorem dX4_mix_100 : decode cX4_mix 100 = .ok (.iload_n 1, 1) := by decide +kernel
theorem dX4_mix_101 : decode cX4_mix 101 = .ok (.bipush 7, 2) := by decide +kernel
theorem dX4_mix_103 : decode cX4_mix 103 = .ok (.isub, 1) := by decide +kernel
theorem dX4_mix_104 : decode cX4_mix 104 = .ok (.iaload, 1) := by decide +kernel
theorem dX4_mix_105 : decode cX4_mix 105 = .ok (.iadd, 1) := by decide +kernel
theorem dX4_mix_106 : decode cX4_mix 106 = .ok (.iload 5, 2) := by decide +kernel
theorem dX4_mix_108 : decode cX4_mix 108 = .ok (.iadd, 1) := by decide +kernel
theorem dX4_mix_109 : decode cX4_mix 109 = .ok (.iastore, 1) := by decide +kernel
theorem dX4_mix_110 : decode cX4_mix 110 = .ok (.iinc 1 1, 3) := by decide +kernel
theorem dX4_mix_113 : decode cX4_mix 113 = .ok (.goto (-110), 3) := by decide +kernel
theorem dX4_mix_116 : decode cX4_mix 116 = .ok (.aload_n 0, 1) := by decide +kernel
theorem dX4_mix_117 : decode cX4_mix 117 = .ok (.getfield 9, 3) := by decide +kernel
theorem dX4_mix_120 : decode cX4_mix 120 = .ok (.iconst 0, 1) := by decide +kernel
theorem dX4_mix_121 : decode cX4_mix 121 = .ok (.iaload, 1) := by decide +kernel
theorem dX4_mix_122 : decode cX4_mix 122 = .ok (.istore_n 1, 1) := by decide +kernel
theorem dX4_mix_123 : decode cX4_mix 123 = .ok (.aload_n 0, 1) := by decide +kernel
theorem dX4_mix_124 : decode cX4_mix 124 = .ok (.getfield 9, 3) := by decide +kernel
theorem dX4_mix_127 : decode cX4_mix 127 = .ok (.iconst 1, 1) := by decide +kernel
theorem dX4_mix_128 : decode cX4_mix 128 = .ok (.iaload, 1) := by decide +kernel
theorem dX4_mix_129 : decode cX4_mix 129 = .ok (.istore_n 2, 1) := by decide +kernel
theorem dX4_mix_130 : decode cX4_mix 130 = .ok (.aload_n 0, 1) := by decide +kernel
theorem dX4_mix_131 : decode cX4_mix 131 = .ok (.getfield 9, 3) := by decide +kernel
theorem dX4_mix_134 : decode cX4_mix 134 = .ok (.iconst 2, 1) := by decide +kernel
theorem dX4_mix_135 : decode cX4_mix 135 = .ok (.iaload, 1) := by decide +kernel
theorem dX4_mix_136 : decode cX4_mix 136 = .ok (.istore_n 3, 1) := by decide +kernel
theorem dX4_mix_137 : decode cX4_mix 137 = .ok (.aload_n 0, 1) := by decide +kernel
theorem dX4_mix_138 : decode cX4_mix 138 = .ok (.getfield 9, 3) := by decide +kernel
theorem dX4_mix_141 : decode cX4_mix 141 = .ok (.iconst 3, 1) := by decide +kernel
theorem dX4_mix_142 : decode cX4_mix 142 = .ok (.iaload, 1) := by decide +kernel
theorem dX4_mix_143 : decode cX4_mix 143 = .ok (.istore 4, 2) := by decide +kernel
theorem dX4_mix_145 : decode cX4_mix 145 = .ok (.aload_n 0, 1) := by decide +kernel
theorem dX4_mix_146 : decode cX4_mix 146 = .ok (.getfield 9, 3) := by decide +kernel
theorem dX4_mix_149 : decode cX4_mix 149 = .ok (.iconst 4, 1) := by decide +kernel
theorem dX4_mix_150 : decode cX4_mix 150 = .ok (.iaload, 1) := by decide +kernel
theorem dX4_mix_151 : decode cX4_mix 151 = .ok (.istore 5, 2) := by decide +kernel
theorem dX4_mix_153 : decode cX4_mix 153 = .ok (.aload_n 0, 1) := by decide +kernel
theorem dX4_mix_154 : decode cX4_mix 154 = .ok (.getfield 9, 3) := by decide +kernel
theorem dX4_mix_157 : decode cX4_mix 157 = .ok (.iconst 5, 1) := by decide +kernel
theorem dX4_mix_158 : decode cX4_mix 158 = .ok (.iaload, 1) := by decide +kernel
theorem dX4_mix_159 : decode cX4_mix 159 = .ok (.istore 6, 2) := by decide +kernel
theorem dX4_mix_161 : decode cX4_mix 161 = .ok (.aload_n 0, 1) := by decide +kernel
theorem dX4_mix_162 : decode cX4_mix 162 = .ok (.getfield 9, 3) := by decide +kernel
theorem dX4_mix_165 : decode cX4_mix 165 = .ok (.bipush 6, 2) := by decide +kernel
theorem dX4_mix_167 : decode cX4_mix 167 = .ok (.iaload, 1) := by decide +kernel
theorem dX4_mix_168 : decode cX4_mix 168 = .ok (.istore 7, 2) := by decide +kernel
theorem dX4_mix_170 : decode cX4_mix 170 = .ok (.aload_n 0, 1) := by decide +kernel
theorem dX4_mix_171 : decode cX4_mix 171 = .ok (.getfield 9, 3) := by decide +kernel
theorem dX4_mix_174 : decode cX4_mix 174 = .ok (.bipush 7, 2) := by decide +kernel
theorem dX4_mix_176 : decode cX4_mix 176 = .ok (.iaload, 1) := by decide +kernel
theorem dX4_mix_177 : decode cX4_mix 177 = .ok (.istore 8, 2) := by decide +kernel
theorem dX4_mix_179 : decode cX4_mix 179 = .ok (.iconst 0, 1) := by decide +kernel
theorem dX4_mix_180 : decode cX4_mix 180 = .ok (.istore 9, 2) := by decide +kernel
theorem dX4_mix_182 : decode cX4_mix 182 = .ok (.iload 9, 2) := by decide +kernel
theorem dX4_mix_184 : decode cX4_mix 184 = .ok (.bipush 64, 2) := by decide +kernel
theorem dX4_mix_186 : decode cX4_mix 186 = .ok (.if_icmp .ge 164, 3) := by decide +kernel
theorem dX4_mix_189 : decode cX4_mix 189 = .ok (.iload 5, 2) := by decide +kernel
theorem dX4_mix_191 : decode cX4_mix 191 = .ok (.bipush 6, 2) := by decide +kernel
theorem dX4_mix_193 : decode cX4_mix 193 = .ok (.iushr, 1) := by decide +kernel
theorem dX4_mix_194 : decode cX4_mix 194 = .ok (.iload 5, 2) := by decide +kernel
theorem dX4_mix_196 : decode cX4_mix 196 = .ok (.bipush 26, 2) := by decide +kernel
theorem dX4_mix_198 : decode cX4_mix 198 = .ok (.ishl, 1) := by decide +kernel
theorem dX4_mix_199 : decode cX4_mix 199 = .ok (.ior, 1) := by decide +kernel
theorem dX4_mix_200 : decode cX4_mix 200 = .ok (.iload 5, 2) := by decide +kernel
theorem dX4_mix_202 : decode cX4_mix 202 = .ok (.bipush 11, 2) := by decide +kernel
theorem dX4_mix_204 : decode cX4_mix 204 = .ok (.iushr, 1) := by decide +kernel
theorem dX4_mix_205 : decode cX4_mix 205 = .ok (.iload 5, 2) := by decide +kernel
theorem dX4_mix_207 : decode cX4_mix 207 = .ok (.bipush 21, 2) := by decide +kernel
theorem dX4_mix_209 : decode cX4_mix 209 = .ok (.ishl, 1) := by decide +kernel
theorem dX4_mix_210 : decode cX4_mix 210 = .ok (.ior, 1) := by decide +kernel
theorem dX4_mix_211 : decode cX4_mix 211 = .ok (.ixor, 1) := by decide +kernel
theorem dX4_mix_212 : decode cX4_mix 212 = .ok (.iload 5, 2) := by decide +kernel
theorem dX4_mix_214 : decode cX4_mix 214 = .ok (.bipush 25, 2) := by decide +kernel
theorem dX4_mix_216 : decode cX4_mix 216 = .ok (.iushr, 1) := by decide +kernel
theorem dX4_mix_217 : decode cX4_mix 217 = .ok (.iload 5, 2) := by decide +kernel
theorem dX4_mix_219 : decode cX4_mix 219 = .ok (.bipush 7, 2) := by decide +kernel
theorem dX4_mix_221 : decode cX4_mix 221 = .ok (.ishl, 1) := by decide +kernel
theorem dX4_mix_222 : decode cX4_mix 222 = .ok (.ior, 1) := by decide +kernel
theorem dX4_mix_223 : decode cX4_mix 223 = .ok (.ixor, 1) := by decide +kernel
theorem dX4_mix_224 : decode cX4_mix 224 = .ok (.istore 10, 2) := by decide +kernel
theorem dX4_mix_226 : decode cX4_mix 226 = .ok (.iload 5, 2) := by decide +kernel
theorem dX4_mix_228 : decode cX4_mix 228 = .ok (.iload 6, 2) := by decide +kernel
theorem dX4_mix_230 : decode cX4_mix 230 = .ok (.iand, 1) := by decide +kernel
theorem dX4_mix_231 : decode cX4_mix 231 = .ok (.iload 5, 2) := by decide +kernel
theorem dX4_mix_233 : decode cX4_mix 233 = .ok (.iconst (-1), 1) := by decide +kernel
theorem dX4_mix_234 : decode cX4_mix 234 = .ok (.ixor, 1) := by decide +kernel
theorem dX4_mix_235 : decode cX4_mix 235 = .ok (.iload 7, 2) := by decide +kernel
theorem dX4_mix_237 : decode cX4_mix 237 = .ok (.iand, 1) := by decide +kernel
theorem dX4_mix_238 : decode cX4_mix 238 = .ok (.ixor, 1) := by decide +kernel
theorem dX4_mix_239 : decode cX4_mix 239 = .ok (.istore 11, 2) := by decide +kernel
theorem dX4_mix_241 : decode cX4_mix 241 = .ok (.iload 8, 2) := by decide +kernel
theorem dX4_mix_243 : decode cX4_mix 243 = .ok (.iload 10, 2) := by decide +kernel
theorem dX4_mix_245 : decode cX4_mix 245 = .ok (.iadd, 1) := by decide +kernel
theorem dX4_mix_246 : decode cX4_mix 246 = .ok (.iload 11, 2) := by decide +kernel
theorem dX4_mix_248 : decode cX4_mix 248 = .ok (.iadd, 1) := by decide +kernel
theorem dX4_mix_249 : decode cX4_mix 249 = .ok (.getstatic 61, 3) := by decide +kernel
theorem dX4_mix_252 : decode cX4_mix 252 = .ok (.iload 9, 2) := by decide +kernel
theorem dX4_mix_254 : decode cX4_mix 254 = .ok (.iaload, 1) := by decide +kernel
theorem dX4_mix_255 : decode cX4_mix 255 = .ok (.iadd, 1) := by decide +kernel
theorem dX4_mix_256 : decode cX4_mix 256 = .ok (.aload_n 0, 1) := by decide +kernel
theorem dX4_mix_257 : decode cX4_mix 257 = .ok (.getfield 15, 3) := by decide +kernel
theorem dX4_mix_260 : decode cX4_mix 260 = .ok (.iload 9, 2) := by decide +kernel
theorem dX4_mix_262 : decode cX4_mix 262 = .ok (.iaload, 1) := by decide +kernel
theorem dX4_mix_263 : decode cX4_mix 263 = .ok (.iadd, 1) := by decide +kernel
theorem dX4_mix_264 : decode cX4_mix 264 = .ok (.istore 12, 2) := by decide +kernel
theorem dX4_mix_266 : decode cX4_mix 266 = .ok (.iload_n 1, 1) := by decide +kernel
theorem dX4_mix_267 : decode cX4_mix 267 = .ok (.iconst 2, 1) := by decide +kernel
theorem dX4_mix_268 : decode cX4_mix 268 = .ok (.iushr, 1) := by decide +kernel
theorem dX4_mix_269 : decode cX4_mix 269 = .ok (.iload_n 1, 1) := by decide +kernel
theorem dX4_mix_270 : decode cX4_mix 270 = .ok (.bipush 30, 2) := by decide +kernel
theorem dX4_mix_272 : decode cX4_mix 272 = .ok (.ishl, 1) := by decide +kernel
theorem dX4_mix_273 : decode cX4_mix 273 = .ok (.ior, 1) := by decide +kernel
theorem dX4_mix_274 : decode cX4_mix 274 = .ok (.iload_n 1, 1) := by decide +kernel
theorem dX4_mix_275 : decode cX4_mix 275 = .ok (.bipush 13, 2) := by decide +kernel
theorem dX4_mix_277 : decode cX4_mix 277 = .ok (.iushr, 1) := by decide +kernel
theorem dX4_mix_278 : decode cX4_mix 278 = .ok (.iload_n 1, 1) := by decide +kernel
theorem dX4_mix_279 : decode cX4_mix 279 = .ok (.bipush 19, 2) := by decide +kernel
theorem dX4_mix_281 : decode cX4_mix 281 = .ok (.ishl, 1) := by decide +kernel
theorem dX4_mix_282 : decode cX4_mix 282 = .ok (.ior, 1) := by decide +kernel
theorem dX4_mix_283 : decode cX4_mix 283 = .ok (.ixor, 1) := by decide +kernel
theorem dX4_mix_284 : decode cX4_mix 284 = .ok (.iload_n 1, 1) := by decide +kernel
theorem dX4_mix_285 : decode cX4_mix 285 = .ok (.bipush 22, 2) := by decide +kernel
theorem dX4_mix_287 : decode cX4_mix 287 = .ok (.iushr, 1) := by decide +kernel
theorem dX4_mix_288 : decode cX4_mix 288 = .ok (.iload_n 1, 1) := by decide +kernel
theorem dX4_mix_289 : decode cX4_mix 289 = .ok (.bipush 10, 2) := by decide +kernel
theorem dX4_mix_291 : decode cX4_mix 291 = .ok (.ishl, 1) := by decide +kernel
theorem dX4_mix_292 : decode cX4_mix 292 = .ok (.ior, 1) := by decide +kernel
theorem dX4_mix_293 : decode cX4_mix 293 = .ok (.ixor, 1) := by decide +kernel
theorem dX4_mix_294 : decode cX4_mix 294 = .ok (.istore 13, 2) := by decide +kernel
theorem dX4_mix_296 : decode cX4_mix 296 = .ok (.iload_n 1, 1) := by decide +kernel
theorem dX4_mix_297 : decode cX4_mix 297 = .ok (.iload_n 2, 1) := by decide +kernel
theorem dX4_mix_298 : decode cX4_mix 298 = .ok (.iand, 1) := by decide +kernel
theorem dX4_mix_299 : decode cX4_mix 299 = .ok (.iload_n 1, 1) := by decide +kernel
theorem dX4_mix_300 : decode cX4_mix 300 = .ok (.iload_n 3, 1) := by decide +kernel
theorem dX4_mix_301 : decode cX4_mix 301 = .ok (.iand, 1) := by decide +kernel
theorem dX4_mix_302 : decode cX4_mix 302 = .ok (.ixor, 1) := by decide +kernel
theorem dX4_mix_303 : decode cX4_mix 303 = .ok (.iload_n 2, 1) := by decide +kernel
theorem dX4_mix_304 : decode cX4_mix 304 = .ok (.iload_n 3, 1) := by decide +kernel
theorem dX4_mix_305 : decode cX4_mix 305 = .ok (.iand, 1) := by decide +kernel
theorem dX4_mix_306 : decode cX4_mix 306 = .ok (.ixor, 1) := by decide +kernel
theorem dX4_mix_307 : decode cX4_mix 307 = .ok (.istore 14, 2) := by decide +kernel
theorem dX4_mix_309 : decode cX4_mix 309 = .ok (.iload 7, 2) := by decide +kernel
theorem dX4_mix_311 : decode cX4_mix 311 = .ok (.istore 8, 2) := by decide +kernel
theorem dX4_mix_313 : decode cX4_mix 313 = .ok (.iload 6, 2) := by decide +kernel
theorem dX4_mix_315 : decode cX4_mix 315 = .ok (.istore 7, 2) := by decide +kernel
theorem dX4_mix_317 : decode cX4_mix 317 = .ok (.iload 5, 2) := by decide +kernel
theorem dX4_mix_319 : decode cX4_mix 319 = .ok (.istore 6, 2) := by decide +kernel
theorem dX4_mix_321 : decode cX4_mix 321 = .ok (.iload 4, 2) := by decide +kernel
theorem dX4_mix_323 : decode cX4_mix 323 = .ok (.iload 12, 2) := by decide +kernel
theorem dX4_mix_325 : decode cX4_mix 325 = .ok (.iadd, 1) := by decide +kernel
theorem dX4_mix_326 : decode cX4_mix 326 = .ok (.istore 5, 2) := by decide +kernel
theorem dX4_mix_328 : decode cX4_mix 328 = .ok (.iload_n 3, 1) := by decide +kernel
theorem dX4_mix_329 : decode cX4_mix 329 = .ok (.istore 4, 2) := by decide +kernel
theorem dX4_mix_331 : decode cX4_mix 331 = .ok (.iload_n 2, 1) := by decide +kernel
theorem dX4_mix_332 : decode cX4_mix 332 = .ok (.istore_n 3, 1) := by decide +kernel
theorem dX4_mix_333 : decode cX4_mix 333 = .ok (.iload_n 1, 1) := by decide +kernel
theorem dX4_mix_334 : decode cX4_mix 334 = .ok (.istore_n 2, 1) := by decide +kernel
theorem dX4_mix_335 : decode cX4_mix 335 = .ok (.iload 12, 2) := by decide +kernel
theorem dX4_mix_337 : decode cX4_mix 337 = .ok (.iload 13, 2) := by decide +kernel
theorem dX4_mix_339 : decode cX4_mix 339 = .ok (.iadd, 1) := by decide +kernel
theorem dX4_mix_340 : decode cX4_mix 340 = .ok (.iload 14, 2) := by decide +kernel
theorem dX4_mix_342 : decode cX4_mix 342 = .ok (.iadd, 1) := by decide +kernel
theorem dX4_mix_343 : decode cX4_mix 343 = .ok (.istore_n 1, 1) := by decide +kernel
theorem dX4_mix_344 : decode cX4_mix 344 = .ok (.iinc 9 1, 3) := by decide +kernel
theorem dX4_mix_347 : decode cX4_mix 347 = .ok (.goto (-165), 3) := by decide +kernel
theorem dX4_mix_350 : decode cX4_mix 350 = .ok (.aload_n 0, 1) := by decide +kernel
theorem dX4_mix_351 : decode cX4_mix 351 = .ok (.getfield 9, 3) := by decide +kernel
theorem dX4_mix_354 : decode cX4_mix 354 = .ok (.iconst 0, 1) := by decide +kernel
theorem dX4_mix_355 : decode cX4_mix 355 = .ok (.dup2, 1) := by decide +kernel
theorem dX4_mix_356 : decode cX4_mix 356 = .ok (.iaload, 1) := by decide +kernel
theorem dX4_mix_357 : decode cX4_mix 357 = .ok (.iload_n 1, 1) := by decide +kernel
theorem dX4_mix_358 : decode cX4_mix 358 = .ok (.iadd, 1) := by decide +kernel
theorem dX4_mix_359 : decode cX4_mix 359 = .ok (.iastore, 1) := by decide +kernel
theorem dX4_mix_360 : decode cX4_mix 360 = .ok (.aload_n 0, 1) := by decide +kernel
theorem dX4_mix_361 : decode cX4_mix 361 = .ok (.getfield 9, 3) := by decide +kernel
theorem dX4_mix_364 : decode cX4_mix 364 = .ok (.iconst 1, 1) := by decide +kernel
theorem dX4_mix_365 : decode cX4_mix 365 = .ok (.dup2, 1) := by decide +kernel
theorem dX4_mix_366 : decode cX4_mix 366 = .ok (.iaload, 1) := by decide +kernel
theorem dX4_mix_367 : decode cX4_mix 367 = .ok (.iload_n 2, 1) := by decide +kernel
theorem dX4_mix_368 : decode cX4_mix 368 = .ok (.iadd, 1) := by decide +kernel
theorem dX4_mix_369 : decode cX4_mix 369 = .ok (.iastore, 1) := by decide +kernel
theorem dX4_mix_370 : decode cX4_mix 370 = .ok (.aload_n 0, 1) := by decide +kernel
theorem dX4_mix_371 : decode cX4_mix 371 = .ok (.getfield 9, 3) := by decide +kernel
theorem dX4_mix_374 : decode cX4_mix 374 = .ok (.iconst 2, 1) := by decide +kernel
theorem dX4_mix_375 : decode cX4_mix 375 = .ok (.dup2, 1) := by decide +kernel
theorem dX4_mix_376 : decode cX4_mix 376 = .ok (.iaload, 1) := by decide +kernel
theorem dX4_mix_377 : decode cX4_mix 377 = .ok (.iload_n 3, 1) := by decide +kernel
theorem dX4_mix_378 : decode cX4_mix 378 = .ok (.iadd, 1) := by decide +kernel
theorem dX4_mix_379 : decode cX4_mix 379 = .ok (.iastore, 1) := by decide +kernel
theorem dX4_mix_380 : decode cX4_mix 380 = .ok (.aload_n 0, 1) := by decide +kernel
theorem dX4_mix_381 : decode cX4_mix 381 = .ok (.getfield 9, 3) := by decide +kernel
theorem dX4_mix_384 : decode cX4_mix 384 = .ok (.iconst 3, 1) := by decide +kernel
theorem dX4_mix_385 : decode cX4_mix 385 = .ok (.dup2, 1) := by decide +kernel
theorem dX4_mix_386 : decode cX4_mix 386 = .ok (.iaload, 1) := by decide +kernel
theorem dX4_mix_387 : decode cX4_mix 387 = .ok (.iload 4, 2) := by decide +kernel
theorem dX4_mix_389 : decode cX4_mix 389 = .ok (.iadd, 1) := by decide +kernel
theorem dX4_mix_390 : decode cX4_mix 390 = .ok (.iastore, 1) := by decide +kernel
theorem dX4_mix_391 : decode cX4_mix 391 = .ok (.aload_n 0, 1) := by decide +kernel
theorem dX4_mix_392 : decode cX4_mix 392 = .ok (.getfield 9, 3) := by decide +kernel
theorem dX4_mix_395 : decode cX4_mix 395 = .ok (.iconst 4, 1) := by decide +kernel
theorem dX4_mix_396 : decode cX4_mix 396 = .ok (.dup2, 1) := by decide +kernel
theorem dX4_mix_397 : decode cX4_mix 397 = .ok (.iaload, 1) := by decide +kernel
theorem dX4_mix_398 : decode cX4_mix 398 = .ok (.iload 5, 2) := by decide +kernel
theorem dX4_mix_400 : decode cX4_mix 400 = .ok (.iadd, 1) := by decide +kernel
theorem dX4_mix_401 : decode cX4_mix 401 = .ok (.iastore, 1) := by decide +kernel
theorem dX4_mix_402 : decode cX4_mix 402 = .ok (.aload_n 0, 1) := by decide +kernel
theorem dX4_mix_403 : decode cX4_mix 403 = .ok (.getfield 9, 3) := by decide +kernel
theorem dX4_mix_406 : decode cX4_mix 406 = .ok (.iconst 5, 1) := by decide +kernel
theorem dX4_mix_407 : decode cX4_mix 407 = .ok (.dup2, 1) := by decide +kernel
theorem dX4_mix_408 : decode cX4_mix 408 = .ok (.iaload, 1) := by decide +kernel
theorem dX4_mix_409 : decode cX4_mix 409 = .ok (.iload 6, 2) := by decide +kernel
theorem dX4_mix_411 : decode cX4_mix 411 = .ok (.iadd, 1) := by decide +kernel
theorem dX4_mix_412 : decode cX4_mix 412 = .ok (.iastore, 1) := by decide +kernel
theorem dX4_mix_413 : decode cX4_mix 413 = .ok (.aload_n 0, 1) := by decide +kernel
theorem dX4_mix_414 : decode cX4_mix 414 = .ok (.getfield 9, 3) := by decide +kernel
theorem dX4_mix_417 : decode cX4_mix 417 = .ok (.bipush 6, 2) := by decide +kernel
theorem dX4_mix_419 : decode cX4_mix 419 = .ok (.dup2, 1) := by decide +kernel
theorem dX4_mix_420 : decode cX4_mix 420 = .ok (.iaload, 1) := by decide +kernel
theorem dX4_mix_421 : decode cX4_mix 421 = .ok (.iload 7, 2) := by decide +kernel
theorem dX4_mix_423 : decode cX4_mix 423 = .ok (.iadd, 1) := by decide +kernel
theorem dX4_mix_424 : decode cX4_mix 424 = .ok (.iastore, 1) := by decide +kernel
theorem dX4_mix_425 : decode cX4_mix 425 = .ok (.aload_n 0, 1) := by decide +kernel
theorem dX4_mix_426 : decode cX4_mix 426 = .ok (.getfield 9, 3) := by decide +kernel
theorem dX4_mix_429 : decode cX4_mix 429 = .ok (.bipush 7, 2) := by decide +kernel
theorem dX4_mix_431 : decode cX4_mix 431 = .ok (.dup2, 1) := by decide +kernel
theorem dX4_mix_432 : decode cX4_mix 432 = .ok (.iaload, 1) := by decide +kernel
theorem dX4_mix_433 : decode cX4_mix 433 = .ok (.iload 8, 2) := by decide +kernel
theorem dX4_mix_435 : decode cX4_mix 435 = .ok (.iadd, 1) := by decide +kernel
theorem dX4_mix_436 : decode cX4_mix 436 = .ok (.iastore, 1) := by decide +kernel
theorem dX4_mix_437 : decode cX4_mix 437 = .ok (.aload_n 0, 1) := by decide +kernel
theorem dX4_mix_438 : decode cX4_mix 438 = .ok (.iconst 0, 1) := by decide +kernel
theorem dX4_mix_439 : decode cX4_mix 439 = .ok (.putfield 27, 3) := by decide +kernel
theorem dX4_mix_442 : decode cX4_mix 442 = .ok (.return_, 1) := by decide +kernel
theorem dX5_init_0 : decode cX5_init 0 = .ok (.aload_n 0, 1) := by decide +kernel
theorem dX5_init_1 : decode cX5_init 1 = .ok (.invokespecial 3, 3) := by decide +kernel
theorem dX5_init_4 : decode cX5_init 4 = .ok (.aload_n 0, 1) := by decide +kernel
theorem dX5_init_5 : decode cX5_init 5 = .ok (.aload_n 1, 1) := by decide +kernel
theorem dX5_init_6 : decode cX5_init 6 = .ok (.putfield 9, 3) := by decide +kernel
theorem dX5_init_9 : decode cX5_init 9 = .ok (.return_, 1) := by decide +kernel
theorem dX5_free_0 : decode cX5_free 0 = .ok (.aload_n 0, 1) := by decide +kernel
theorem dX5_free_1 : decode cX5_free 1 = .ok (.getfield 9, 3) := by decide +kernel
theorem dX5_free_4 : decode cX5_free 4 = .ok (.arraylength, 1) := by decide +kernel
theorem dX5_free_5 : decode cX5_free 5 = .ok (.aload_n 0, 1) := by decide +kernel
theorem dX5_free_6 : decode cX5_free 6 = .ok (.getfield 15, 3) := by decide +kernel
theorem dX5_free_9 : decode cX5_free 9 = .ok (.isub, 1) := by decide +kernel
theorem dX5_free_10 : decode cX5_free 10 = .ok (.ireturn, 1) := by decide +kernel
theorem dX5_useUp_0 : decode cX5_useUp 0 = .ok (.aload_n 0, 1) := by decide +kernel
theorem dX5_useUp_1 : decode cX5_useUp 1 = .ok (.getfield 15, 3) := by decide +kernel
theorem dX5_useUp_4 : decode cX5_useUp 4 = .ok (.istore_n 1, 1) := by decide +kernel
theorem dX5_useUp_5 : decode cX5_useUp 5 = .ok (.aload_n 0, 1) := by decide +kernel
theorem dX5_useUp_6 : decode cX5_useUp 6 = .ok (.iconst 0, 1) := by decide +kernel
theorem dX5_useUp_7 : decode cX5_useUp 7 = .ok (.putfield 15, 3) := by decide +kernel
theorem dX5_useUp_10 : decode cX5_useUp 10 = .ok (.iload_n 1, 1) := by decide +kernel
theorem dX5_useUp_11 : decode cX5_useUp 11 = .ok (.ireturn, 1) := by decide +kernel
theorem dX5_become_0 : decode cX5_become 0 = .ok (.aload_n 0, 1) := by decide +kernel
theorem dX5_become_1 : decode cX5_become 1 = .ok (.iconst 0, 1) := by decide +kernel
theorem dX5_become_2 : decode cX5_become 2 = .ok (.putfield 15, 3) := by decide +kernel
theorem dX5_become_5 : decode cX5_become 5 = .ok (.aload_n 0, 1) := by decide +kernel
theorem dX5_become_6 : decode cX5_become 6 = .ok (.aload_n 1, 1) := by decide +kernel
theorem dX5_become_7 : decode cX5_become 7 = .ok (.iconst 0, 1) := by decide +kernel
theorem dX5_become_8 : decode cX5_become 8 = .ok (.iload_n 2, 1) := by decide +kernel
theorem dX5_become_9 : decode cX5_become 9 = .ok (.invokevirtual 19, 3) := by decide +kernel
theorem dX5_become_12 : decode cX5_become 12 = .ok (.return_, 1) := by decide +kernel
theorem dX5_addRow_0 : decode cX5_addRow 0 = .ok (.aload_n 1, 1) := by decide +kernel
theorem dX5_addRow_1 : decode cX5_addRow 1 = .ok (.iload_n 2, 1) := by decide +kernel
theorem dX5_addRow_2 : decode cX5_addRow 2 = .ok (.iload_n 3, 1) := by decide +kernel
theorem dX5_addRow_3 : decode cX5_addRow 3 = .ok (.invokestatic 23, 3) := by decide +kernel
theorem dX5_addRow_6 : decode cX5_addRow 6 = .ok (.ifCond .eq 35, 3) := by decide +kernel
theorem dX5_addRow_9 : decode cX5_addRow 9 = .ok (.iload_n 3, 1) := by decide +kernel
theorem dX5_addRow_10 : decode cX5_addRow 10 = .ok (.aload_n 0, 1) := by decide +kernel
theorem dX5_addRow_11 : decode cX5_addRow 11 = .ok (.invokevirtual 29, 3) := by decide +kernel
theorem dX5_addRow_14 : decode cX5_addRow 14 = .ok (.if_icmp .gt 27, 3) := by decide +kernel
theorem dX5_addRow_17 : decode cX5_addRow 17 = .ok (.aload_n 1, 1) := by decide +kernel
theorem dX5_addRow_18 : decode cX5_addRow 18 = .ok (.iload_n 2, 1) := by decide +kernel
theorem dX5_addRow_19 : decode cX5_addRow 19 = .ok (.aload_n 0, 1) := by decide +kernel
theorem dX5_addRow_20 : decode cX5_addRow 20 = .ok (.getfield 9, 3) := by decide +kernel
theorem dX5_addRow_23 : decode cX5_addRow 23 = .ok (.aload_n 0, 1) := by decide +kernel
theorem dX5_addRow_24 : decode cX5_addRow 24 = .ok (.getfield 15, 3) := by decide +kernel
theorem dX5_addRow_27 : decode cX5_addRow 27 = .ok (.iload_n 3, 1) := by decide +kernel
theorem dX5_addRow_28 : decode cX5_addRow 28 = .ok (.invokestatic 33, 3) := by decide +kernel
theorem dX5_addRow_31 : decode cX5_addRow 31 = .ok (.aload_n 0, 1) := by decide +kernel
theorem dX5_addRow_32 : decode cX5_addRow 32 = .ok (.dup, 1) := by decide +kernel
theorem dX5_addRow_33 : decode cX5_addRow 33 = .ok (.getfield 15, 3) := by decide +kernel
theorem dX5_addRow_36 : decode cX5_addRow 36 = .ok (.iload_n 3, 1) := by decide +kernel
theorem dX5_addRow_37 : decode cX5_addRow 37 = .ok (.iadd, 1) := by decide +kernel
theorem dX5_addRow_38 : decode cX5_addRow 38 = .ok (.putfield 15, 3) := by decide +kernel
theorem dX5_addRow_41 : decode cX5_addRow 41 = .ok (.return_, 1) := by decide +kernel
theorem dX5_addInt_0 : decode cX5_addInt 0 = .ok (.aload_n 0, 1) := by decide +kernel
theorem dX5_addInt_1 : decode cX5_addInt 1 = .ok (.invokevirtual 29, 3) := by decide +kernel
theorem dX5_addInt_4 : decode cX5_addInt 4 = .ok (.iconst 4, 1) := by decide +kernel
theorem dX5_addInt_5 : decode cX5_addInt 5 = .ok (.if_icmp .ge 4, 3) := by decide +kernel
theorem dX5_addInt_8 : decode cX5_addInt 8 = .ok (.return_, 1) := by decide +kernel
theorem dX5_addInt_9 : decode cX5_addInt 9 = .ok (.bipush 24, 2) := by decide +kernel
theorem dX5_addInt_11 : decode cX5_addInt 11 = .ok (.istore_n 2, 1) := by decide +kernel
theorem dX5_addInt_12 : decode cX5_addInt 12 = .ok (.iload_n 2, 1) := by decide +kernel
theorem dX5_addInt_13 : decode cX5_addInt 13 = .ok (.ifCond .lt 32, 3) := by decide +kernel
theorem dX5_addInt_16 : decode cX5_addInt 16 = .ok (.aload_n 0, 1) := by decide +kernel
theorem dX5_addInt_17 : decode cX5_addInt 17 = .ok (.getfield 9, 3) := by decide +kernel
theorem dX5_addInt_20 : decode cX5_addInt 20 = .ok (.aload_n 0, 1) := by decide +kernel
theorem dX5_addInt_21 : decode cX5_addInt 21 = .ok (.getfield 15, 3) := by decide +kernel
theorem dX5_addInt_24 : decode cX5_addInt 24 = .ok (.iload_n 1, 1) := by decide +kernel
theorem dX5_addInt_25 : decode cX5_addInt 25 = .ok (.iload_n 2, 1) := by decide +kernel
theorem dX5_addInt_26 : decode cX5_addInt 26 = .ok (.iushr, 1) := by decide +kernel
theorem dX5_addInt_27 : decode cX5_addInt 27 = .ok (.i2b, 1) := by decide +kernel
theorem dX5_addInt_28 : decode cX5_addInt 28 = .ok (.bastore, 1) := by decide +kernel
theorem dX5_addInt_29 : decode cX5_addInt 29 = .ok (.aload_n 0, 1) := by decide +kernel
theorem dX5_addInt_30 : decode cX5_addInt 30 = .ok (.dup, 1) := by decide +kernel
theorem dX5_addInt_31 : decode cX5_addInt 31 = .ok (.getfield 15, 3) := by decide +kernel
theorem dX5_addInt_34 : decode cX5_addInt 34 = .ok (.iconst 1, 1) := by decide +kernel
theorem dX5_addInt_35 : decode cX5_addInt 35 = .ok (.iadd, 1) := by decide +kernel
theorem dX5_addInt_36 : decode cX5_addInt 36 = .ok (.putfield 15, 3) := by decide +kernel
theorem dX5_addInt_39 : decode cX5_addInt 39 = .ok (.iinc 2 (-8), 3) := by decide +kernel
theorem dX5_addInt_42 : decode cX5_addInt 42 = .ok (.goto (-30), 3) := by decide +kernel
theorem dX5_addInt_45 : decode cX5_addInt 45 = .ok (.return_, 1) := by decide +kernel
theorem dX5_byteAt_0 : decode cX5_byteAt 0 = .ok (.iload_n 1, 1) := by decide +kernel
theorem dX5_byteAt_1 : decode cX5_byteAt 1 = .ok (.ifCond .lt 11, 3) := by decide +kernel
theorem dX5_byteAt_4 : decode cX5_byteAt 4 = .ok (.iload_n 1, 1) := by decide +kernel
theorem dX5_byteAt_5 : decode cX5_byteAt 5 = .ok (.aload_n 0, 1) := by decide +kernel
theorem dX5_byteAt_6 : decode cX5_byteAt 6 = .ok (.getfield 15, 3) := by decide +kernel
theorem dX5_byteAt_9 : decode cX5_byteAt 9 = .ok (.if_icmp .lt 7, 3) := by decide +kernel
theorem dX5_byteAt_12 : decode cX5_byteAt 12 = .ok (.iconst (-1), 1) := by decide +kernel
theorem dX5_byteAt_13 : decode cX5_byteAt 13 = .ok (.goto 13, 3) := by decide +kernel
theorem dX5_byteAt_16 : decode cX5_byteAt 16 = .ok (.aload_n 0, 1) := by decide +kernel
theorem dX5_byteAt_17 : decode cX5_byteAt 17 = .ok (.getfield 9, 3) := by decide +kernel
theorem dX5_byteAt_20 : decode cX5_byteAt 20 = .ok (.iload_n 1, 1) := by decide +kernel
theorem dX5_byteAt_21 : decode cX5_byteAt 21 = .ok (.baload, 1) := by decide +kernel
theorem dX5_byteAt_22 : decode cX5_byteAt 22 = .ok (.sipush 255, 3) := by decide +kernel
theorem dX5_byteAt_25 : decode cX5_byteAt 25 = .ok (.iand, 1) := by decide +kernel
theorem dX5_byteAt_26 : decode cX5_byteAt 26 = .ok (.ireturn, 1) := by decide +kernel
theorem dX6_init_0 : decode cX6_init 0 = .ok (.aload_n 0, 1) := by decide +kernel
theorem dX6_init_1 : decode cX6_init 1 = .ok (.invokespecial 1, 3) := by decide +kernel
theorem dX6_init_4 : decode cX6_init 4 = .ok (.return_, 1) := by decide +kernel
theorem dX6_lacksEvidence_0 : decode cX6_lacksEvidence 0 = .ok (.aload_n 0, 1) := by decide +kernel
theorem dX6_lacksEvidence_1 : decode cX6_lacksEvidence 1 = .ok (.getfield 7, 3) := by decide +kernel
theorem dX6_lacksEvidence_4 : decode cX6_lacksEvidence 4 = .ok (.ifnonnull 7, 3) := by decide +kernel
theorem dX6_lacksEvidence_7 : decode cX6_lacksEvidence 7 = .ok (.iconst 1, 1) := by decide +kernel
theorem dX6_lacksEvidence_8 : decode cX6_lacksEvidence 8 = .ok (.goto 4, 3) := by decide +kernel
theorem dX6_lacksEvidence_11 : decode cX6_lacksEvidence 11 = .ok (.iconst 0, 1) := by decide +kernel
theorem dX6_lacksEvidence_12 : decode cX6_lacksEvidence 12 = .ok (.ireturn, 1) := by decide +kernel
theorem dX6_keepEvidence_0 : decode cX6_keepEvidence 0 = .ok (.aload_n 0, 1) := by decide +kernel
theorem dX6_keepEvidence_1 : decode cX6_keepEvidence 1 = .ok (.invokevirtual 13, 3) := by decide +kernel
theorem dX6_keepEvidence_4 : decode cX6_keepEvidence 4 = .ok (.ifCond .eq 13, 3) := by decide +kernel
theorem dX6_keepEvidence_7 : decode cX6_keepEvidence 7 = .ok (.aload_n 0, 1) := by decide +kernel
theorem dX6_keepEvidence_8 : decode cX6_keepEvidence 8 = .ok (.aload_n 1, 1) := by decide +kernel
theorem dX6_keepEvidence_9 : decode cX6_keepEvidence 9 = .ok (.putfield 7, 3) := by decide +kernel
theorem dX6_keepEvidence_12 : decode cX6_keepEvidence 12 = .ok (.aload_n 0, 1) := by decide +kernel
theorem dX6_keepEvidence_13 : decode cX6_keepEvidence 13 = .ok (.aload_n 2, 1) := by decide +kernel
theorem dX6_keepEvidence_14 : decode cX6_keepEvidence 14 = .ok (.putfield 17, 3) := by decide +kernel
theorem dX6_keepEvidence_17 : decode cX6_keepEvidence 17 = .ok (.return_, 1) := by decide +kernel
theorem dX6_rowAt_0 : decode cX6_rowAt 0 = .ok (.iload_n 1, 1) := by decide +kernel
theorem dX6_rowAt_1 : decode cX6_rowAt 1 = .ok (.tableswitch 42 0 2 #[27, 32, 37], 27) := by decide +kernel
theorem dX6_rowAt_28 : decode cX6_rowAt 28 = .ok (.aload_n 0, 1) := by decide +kernel
theorem dX6_rowAt_29 : decode cX6_rowAt 29 = .ok (.getfield 20, 3) := by decide +kernel
theorem dX6_rowAt_32 : decode cX6_rowAt 32 = .ok (.areturn, 1) := by decide +kernel
theorem dX6_rowAt_33 : decode cX6_rowAt 33 = .ok (.aload_n 0, 1) := by decide +kernel
theorem dX6_rowAt_34 : decode cX6_rowAt 34 = .ok (.getfield 7, 3) := by decide +kernel
theorem dX6_rowAt_37 : decode cX6_rowAt 37 = .ok (.areturn, 1) := by decide +kernel
theorem dX6_rowAt_38 : decode cX6_rowAt 38 = .ok (.aload_n 0, 1) := by decide +kernel
theorem dX6_rowAt_39 : decode cX6_rowAt 39 = .ok (.getfield 17, 3) := by decide +kernel
theorem dX6_rowAt_42 : decode cX6_rowAt 42 = .ok (.areturn, 1) := by decide +kernel
theorem dX6_rowAt_43 : decode cX6_rowAt 43 = .ok (.aconst_null, 1) := by decide +kernel
theorem dX6_rowAt_44 : decode cX6_rowAt 44 = .ok (.areturn, 1) := by decide +kernel
theorem dX7_init_0 : decode cX7_init 0 = .ok (.aload_n 0, 1) := by decide +kernel
theorem dX7_init_1 : decode cX7_init 1 = .ok (.invokespecial 3, 3) := by decide +kernel
theorem dX7_init_4 : decode cX7_init 4 = .ok (.aload_n 0, 1) := by decide +kernel
theorem dX7_init_5 : decode cX7_init 5 = .ok (.new 9, 3) := by decide +kernel
theorem dX7_init_8 : decode cX7_init 8 = .ok (.dup, 1) := by decide +kernel
theorem dX7_init_9 : decode cX7_init 9 = .ok (.sipush 2200, 3) := by decide +kernel
theorem dX7_init_12 : decode cX7_init 12 = .ok (.newarray .byte, 2) := by decide +kernel
theorem dX7_init_14 : decode cX7_init 14 = .ok (.invokespecial 11, 3) := by decide +kernel
theorem dX7_init_17 : decode cX7_init 17 = .ok (.putfield 14, 3) := by decide +kernel
theorem dX7_init_20 : decode cX7_init 20 = .ok (.aload_n 0, 1) := by decide +kernel
theorem dX7_init_21 : decode cX7_init 21 = .ok (.new 9, 3) := by decide +kernel
theorem dX7_init_24 : decode cX7_init 24 = .ok (.dup, 1) := by decide +kernel
theorem dX7_init_25 : decode cX7_init 25 = .ok (.sipush 288, 3) := by decide +kernel
theorem dX7_init_28 : decode cX7_init 28 = .ok (.newarray .byte, 2) := by decide +kernel
theorem dX7_init_30 : decode cX7_init 30 = .ok (.invokespecial 11, 3) := by decide +kernel
theorem dX7_init_33 : decode cX7_init 33 = .ok (.putfield 18, 3) := by decide +kernel
theorem dX7_init_36 : decode cX7_init 36 = .ok (.aload_n 0, 1) := by decide +kernel
theorem dX7_init_37 : decode cX7_init 37 = .ok (.iconst 2, 1) := by decide +kernel
theorem dX7_init_38 : decode cX7_init 38 = .ok (.anewarray 21, 3) := by decide +kernel
theorem dX7_init_41 : decode cX7_init 41 = .ok (.putfield 23, 3) := by decide +kernel
theorem dX7_init_44 : decode cX7_init 44 = .ok (.iconst 0, 1) := by decide +kernel
theorem dX7_init_45 : decode cX7_init 45 = .ok (.istore_n 1, 1) := by decide +kernel
theorem dX7_init_46 : decode cX7_init 46 = .ok (.iload_n 1, 1) := by decide +kernel
theorem dX7_init_47 : decode cX7_init 47 = .ok (.iconst 2, 1) := by decide +kernel
theorem dX7_init_48 : decode cX7_init 48 = .ok (.if_icmp .ge 22, 3) := by decide +kernel
theorem dX7_init_51 : decode cX7_init 51 = .ok (.aload_n 0, 1) := by decide +kernel
theorem dX7_init_52 : decode cX7_init 52 = .ok (.getfield 23, 3) := by decide +kernel
theorem dX7_init_55 : decode cX7_init 55 = .ok (.iload_n 1, 1) := by decide +kernel
theorem dX7_init_56 : decode cX7_init 56 = .ok (.new 21, 3) := by decide +kernel
theorem dX7_init_59 : decode cX7_init 59 = .ok (.dup, 1) := by decide +kernel
theorem dX7_init_60 : decode cX7_init 60 = .ok (.invokespecial 27, 3) := by decide +kernel
theorem dX7_init_63 : decode cX7_init 63 = .ok (.aastore, 1) := by decide +kernel
theorem dX7_init_64 : decode cX7_init 64 = .ok (.iinc 1 1, 3) := by decide +kernel
theorem dX7_init_67 : decode cX7_init 67 = .ok (.goto (-21), 3) := by decide +kernel
theorem dX7_init_70 : decode cX7_init 70 = .ok (.aload_n 0, 1) := by decide +kernel
theorem dX7_init_71 : decode cX7_init 71 = .ok (.bipush 8, 2) := by decide +kernel
theorem dX7_init_73 : decode cX7_init 73 = .ok (.anewarray 28, 3) := by decide +kernel
theorem dX7_init_76 : decode cX7_init 76 = .ok (.putfield 30, 3) := by decide +kernel
theorem dX7_init_79 : decode cX7_init 79 = .ok (.iconst 0, 1) := by decide +kernel
theorem dX7_init_80 : decode cX7_init 80 = .ok (.istore_n 1, 1) := by decide +kernel
theorem dX7_init_81 : decode cX7_init 81 = .ok (.iload_n 1, 1) := by decide +kernel
theorem dX7_init_82 : decode cX7_init 82 = .ok (.bipush 8, 2) := by decide +kernel
theorem dX7_init_84 : decode cX7_init 84 = .ok (.if_icmp .ge 22, 3) := by decide +kernel
theorem dX7_init_87 : decode cX7_init 87 = .ok (.aload_n 0, 1) := by decide +kernel
theorem dX7_init_88 : decode cX7_init 88 = .ok (.getfield 30, 3) := by decide +kernel
theorem dX7_init_91 : decode cX7_init 91 = .ok (.iload_n 1, 1) := by decide +kernel
theorem dX7_init_92 : decode cX7_init 92 = .ok (.new 28, 3) := by decide +kernel
theorem dX7_init_95 : decode cX7_init 95 = .ok (.dup, 1) := by decide +kernel
theorem dX7_init_96 : decode cX7_init 96 = .ok (.invokespecial 34, 3) := by decide +kernel
theorem dX7_init_99 : decode cX7_init 99 = .ok (.aastore, 1) := by decide +kernel
theorem dX7_init_100 : decode cX7_init 100 = .ok (.iinc 1 1, 3) := by decide +kernel
theorem dX7_init_103 : decode cX7_init 103 = .ok (.goto (-22), 3) := by decide +kernel
theorem dX7_init_106 : decode cX7_init 106 = .ok (.aload_n 0, 1) := by decide +kernel
theorem dX7_init_107 : decode cX7_init 107 = .ok (.new 35, 3) := by decide +kernel
theorem dX7_init_110 : decode cX7_init 110 = .ok (.dup, 1) := by decide +kernel
theorem dX7_init_111 : decode cX7_init 111 = .ok (.invokespecial 37, 3) := by decide +kernel
theorem dX7_init_114 : decode cX7_init 114 = .ok (.putfield 38, 3) := by decide +kernel
theorem dX7_init_117 : decode cX7_init 117 = .ok (.aload_n 0, 1) := by decide +kernel
theorem dX7_init_118 : decode cX7_init 118 = .ok (.new 42, 3) := by decide +kernel
theorem dX7_init_121 : decode cX7_init 121 = .ok (.dup, 1) := by decide +kernel
theorem dX7_init_122 : decode cX7_init 122 = .ok (.invokespecial 44, 3) := by decide +kernel
theorem dX7_init_125 : decode cX7_init 125 = .ok (.putfield 45, 3) := by decide +kernel
theorem dX7_init_128 : decode cX7_init 128 = .ok (.return_, 1) := by decide +kernel
theorem dX7_feed_0 : decode cX7_feed 0 = .ok (.aload_n 0, 1) := by decide +kernel
theorem dX7_feed_1 : decode cX7_feed 1 = .ok (.getfield 14, 3) := by decide +kernel
theorem dX7_feed_4 : decode cX7_feed 4 = .ok (.invokevirtual 49, 3) := by decide +kernel
theorem dX7_feed_7 : decode cX7_feed 7 = .ok (.bipush 20, 2) := by decide +kernel
theorem dX7_feed_9 : decode cX7_feed 9 = .ok (.if_icmp .ge 5, 3) := by decide +kernel
theorem dX7_feed_12 : decode cX7_feed 12 = .ok (.iconst (-1), 1) := by decide +kernel
theorem dX7_feed_13 : decode cX7_feed 13 = .ok (.ireturn, 1) := by decide +kernel
theorem dX7_feed_14 : decode cX7_feed 14 = .ok (.aload_n 0, 1) := by decide +kernel
theorem dX7_feed_15 : decode cX7_feed 15 = .ok (.getfield 14, 3) := by decide +kernel
theorem dX7_feed_18 : decode cX7_feed 18 = .ok (.iload_n 1, 1) := by decide +kernel
theorem dX7_feed_19 : decode cX7_feed 19 = .ok (.invokevirtual 53, 3) := by decide +kernel
theorem dX7_feed_22 : decode cX7_feed 22 = .ok (.aload_n 0, 1) := by decide +kernel
theorem dX7_feed_23 : decode cX7_feed 23 = .ok (.getfield 14, 3) := by decide +kernel
theorem dX7_feed_26 : decode cX7_feed 26 = .ok (.iload_n 2, 1) := by decide +kernel
theorem dX7_feed_27 : decode cX7_feed 27 = .ok (.invokevirtual 53, 3) := by decide +kernel
theorem dX7_feed_30 : decode cX7_feed 30 = .ok (.aload_n 0, 1) := by decide +kernel
theorem dX7_feed_31 : decode cX7_feed 31 = .ok (.getfield 14, 3) := by decide +kernel
theorem dX7_feed_34 : decode cX7_feed 34 = .ok (.iload_n 3, 1) := by decide +kernel
theorem dX7_feed_35 : decode cX7_feed 35 = .ok (.invokevirtual 53, 3) := by decide +kernel
theorem dX7_feed_38 : decode cX7_feed 38 = .ok (.aload_n 0, 1) := by decide +kernel
theorem dX7_feed_39 : decode cX7_feed 39 = .ok (.getfield 14, 3) := by decide +kernel
theorem dX7_feed_42 : decode cX7_feed 42 = .ok (.iload 4, 2) := by decide +kernel
theorem dX7_feed_44 : decode cX7_feed 44 = .ok (.invokevirtual 53, 3) := by decide +kernel
theorem dX7_feed_47 : decode cX7_feed 47 = .ok (.aload_n 0, 1) := by decide +kernel
theorem dX7_feed_48 : decode cX7_feed 48 = .ok (.getfield 14, 3) := by decide +kernel
theorem dX7_feed_51 : decode cX7_feed 51 = .ok (.iload 5, 2) := by decide +kernel
theorem dX7_feed_53 : decode cX7_feed 53 = .ok (.invokevirtual 53, 3) := by decide +kernel
theorem dX7_feed_56 : decode cX7_feed 56 = .ok (.aload_n 0, 1) := by decide +kernel
theorem dX7_feed_57 : decode cX7_feed 57 = .ok (.getfield 14, 3) := by decide +kernel
theorem dX7_feed_60 : decode cX7_feed 60 = .ok (.getfield 57, 3) := by decide +kernel
theorem dX7_feed_63 : decode cX7_feed 63 = .ok (.ireturn, 1) := by decide +kernel
theorem dX7_end_0 : decode cX7_end 0 = .ok (.iload_n 1, 1) := by decide +kernel
theorem dX7_end_1 : decode cX7_end 1 = .ok (.ifCond .lt 14, 3) := by decide +kernel
theorem dX7_end_4 : decode cX7_end 4 = .ok (.iload_n 1, 1) := by decide +kernel
theorem dX7_end_5 : decode cX7_end 5 = .ok (.aload_n 0, 1) := by decide +kernel
theorem dX7_end_6 : decode cX7_end 6 = .ok (.getfield 14, 3) := by decide +kernel
theorem dX7_end_9 : decode cX7_end 9 = .ok (.getfield 57, 3) := by decide +kernel
theorem dX7_end_12 : decode cX7_end 12 = .ok (.if_icmp .le 5, 3) := by decide +kernel
theorem dX7_end_15 : decode cX7_end 15 = .ok (.iconst 0, 1) := by decide +kernel
theorem dX7_end_16 : decode cX7_end 16 = .ok (.ireturn, 1) := by decide +kernel
theorem dX7_end_17 : decode cX7_end 17 = .ok (.aload_n 0, 1) := by decide +kernel
theorem dX7_end_18 : decode cX7_end 18 = .ok (.getfield 14, 3) := by decide +kernel
theorem dX7_end_21 : decode cX7_end 21 = .ok (.iload_n 1, 1) := by decide +kernel
theorem dX7_end_22 : decode cX7_end 22 = .ok (.putfield 57, 3) := by decide +kernel
theorem dX7_end_25 : decode cX7_end 25 = .ok (.iconst 1, 1) := by decide +kernel
theorem dX7_end_26 : decode cX7_end 26 = .ok (.ireturn, 1) := by decide +kernel
theorem dX7_again_0 : decode cX7_again 0 = .ok (.aload_n 0, 1) := by decide +kernel
theorem dX7_again_1 : decode cX7_again 1 = .ok (.getfield 14, 3) := by decide +kernel
theorem dX7_again_4 : decode cX7_again 4 = .ok (.invokevirtual 49, 3) := by decide +kernel
theorem dX7_again_7 : decode cX7_again 7 = .ok (.aload_n 0, 1) := by decide +kernel
theorem dX7_again_8 : decode cX7_again 8 = .ok (.getfield 18, 3) := by decide +kernel
theorem dX7_again_11 : decode cX7_again 11 = .ok (.getfield 57, 3) := by decide +kernel
theorem dX7_again_14 : decode cX7_again 14 = .ok (.if_icmp .ge 5, 3) := by decide +kernel
theorem dX7_again_17 : decode cX7_again 17 = .ok (.iconst (-1), 1) := by decide +kernel
theorem dX7_again_18 : decode cX7_again 18 = .ok (.ireturn, 1) := by decide +kernel
theorem dX7_again_19 : decode cX7_again 19 = .ok (.aload_n 0, 1) := by decide +kernel
theorem dX7_again_20 : decode cX7_again 20 = .ok (.getfield 14, 3) := by decide +kernel
theorem dX7_again_23 : decode cX7_again 23 = .ok (.aload_n 0, 1) := by decide +kernel
theorem dX7_again_24 : decode cX7_again 24 = .ok (.getfield 18, 3) := by decide +kernel
theorem dX7_again_27 : decode cX7_again 27 = .ok (.getfield 61, 3) := by decide +kernel
theorem dX7_again_30 : decode cX7_again 30 = .ok (.iconst 0, 1) := by decide +kernel
theorem dX7_again_31 : decode cX7_again 31 = .ok (.aload_n 0, 1) := by decide +kernel
theorem dX7_again_32 : decode cX7_again 32 = .ok (.getfield 18, 3) := by decide +kernel
theorem dX7_again_35 : decode cX7_again 35 = .ok (.getfield 57, 3) := by decide +kernel
theorem dX7_again_38 : decode cX7_again 38 = .ok (.invokevirtual 65, 3) := by decide +kernel
theorem dX7_again_41 : decode cX7_again 41 = .ok (.aload_n 0, 1) := by decide +kernel
theorem dX7_again_42 : decode cX7_again 42 = .ok (.getfield 14, 3) := by decide +kernel
theorem dX7_again_45 : decode cX7_again 45 = .ok (.getfield 57, 3) := by decide +kernel
theorem dX7_again_48 : decode cX7_again 48 = .ok (.ireturn, 1) := by decide +kernel
theorem dX7_out_0 : decode cX7_out 0 = .ok (.aload_n 0, 1) := by decide +kernel
theorem dX7_out_1 : decode cX7_out 1 = .ok (.getfield 18, 3) := by decide +kernel
theorem dX7_out_4 : decode cX7_out 4 = .ok (.iload_n 1, 1) := by decide +kernel
theorem dX7_out_5 : decode cX7_out 5 = .ok (.invokevirtual 69, 3) := by decide +kernel

theorem dX0_init_0 : decode cX0_init 0 = .ok (.aload_n 0, 1) := by decide +kernel
theorem dX0_init_1 : decode cX0_init 1 = .ok (.invokespecial 3, 3) := by decide +kernel
theorem dX0_init_4 : decode cX0_init 4 = .ok (.aload_n 0, 1) := by decide +kernel
theorem dX0_init_5 : decode cX0_init 5 = .ok (.iload_n 1, 1) := by decide +kernel
theorem dX0_init_6 : decode cX0_init 6 = .ok (.putfield 9, 3) := by decide +kernel
theorem dX0_init_9 : decode cX0_init 9 = .ok (.aload_n 0, 1) := by decide +kernel
theorem dX0_init_10 : decode cX0_init 10 = .ok (.iload_n 2, 1) := by decide +kernel
theorem dX0_init_11 : decode cX0_init 11 = .ok (.putfield 15, 3) := by decide +kernel
theorem dX0_init_14 : decode cX0_init 14 = .ok (.aload_n 0, 1) := by decide +kernel
theorem dX0_init_15 : decode cX0_init 15 = .ok (.iload_n 3, 1) := by decide +kernel
theorem dX0_init_16 : decode cX0_init 16 = .ok (.putfield 18, 3) := by decide +kernel
theorem dX0_init_19 : decode cX0_init 19 = .ok (.aload_n 0, 1) := by decide +kernel
theorem dX0_init_20 : decode cX0_init 20 = .ok (.iload 4, 2) := by decide +kernel
theorem dX0_init_22 : decode cX0_init 22 = .ok (.putfield 21, 3) := by decide +kernel
theorem dX0_init_25 : decode cX0_init 25 = .ok (.return_, 1) := by decide +kernel
theorem dX0_size_0 : decode cX0_size 0 = .ok (.aload_n 0, 1) := by decide +kernel
theorem dX0_size_1 : decode cX0_size 1 = .ok (.getfield 18, 3) := by decide +kernel
theorem dX0_size_4 : decode cX0_size 4 = .ok (.aload_n 0, 1) := by decide +kernel
theorem dX0_size_5 : decode cX0_size 5 = .ok (.getfield 21, 3) := by decide +kernel
theorem dX0_size_8 : decode cX0_size 8 = .ok (.imul, 1) := by decide +kernel
theorem dX0_size_9 : decode cX0_size 9 = .ok (.ireturn, 1) := by decide +kernel
theorem dX0_cell_0 : decode cX0_cell 0 = .ok (.iload_n 1, 1) := by decide +kernel
theorem dX0_cell_1 : decode cX0_cell 1 = .ok (.ifCond .lt 19, 3) := by decide +kernel
theorem dX0_cell_4 : decode cX0_cell 4 = .ok (.iload_n 1, 1) := by decide +kernel
theorem dX0_cell_5 : decode cX0_cell 5 = .ok (.aload_n 0, 1) := by decide +kernel
theorem dX0_cell_6 : decode cX0_cell 6 = .ok (.invokevirtual 24, 3) := by decide +kernel
theorem dX0_cell_9 : decode cX0_cell 9 = .ok (.if_icmp .ge 11, 3) := by decide +kernel
theorem dX0_cell_12 : decode cX0_cell 12 = .ok (.aload_n 0, 1) := by decide +kernel
theorem dX0_cell_13 : decode cX0_cell 13 = .ok (.getfield 18, 3) := by decide +kernel
theorem dX0_cell_16 : decode cX0_cell 16 = .ok (.iconst 1, 1) := by decide +kernel
theorem dX0_cell_17 : decode cX0_cell 17 = .ok (.if_icmp .ge 5, 3) := by decide +kernel
theorem dX0_cell_20 : decode cX0_cell 20 = .ok (.iconst (-1), 1) := by decide +kernel
theorem dX0_cell_21 : decode cX0_cell 21 = .ok (.ireturn, 1) := by decide +kernel
theorem dX0_cell_22 : decode cX0_cell 22 = .ok (.aload_n 0, 1) := by decide +kernel
theorem dX0_cell_23 : decode cX0_cell 23 = .ok (.getfield 9, 3) := by decide +kernel
theorem dX0_cell_26 : decode cX0_cell 26 = .ok (.iload_n 1, 1) := by decide +kernel
theorem dX0_cell_27 : decode cX0_cell 27 = .ok (.aload_n 0, 1) := by decide +kernel
theorem dX0_cell_28 : decode cX0_cell 28 = .ok (.getfield 18, 3) := by decide +kernel
theorem dX0_cell_31 : decode cX0_cell 31 = .ok (.irem, 1) := by decide +kernel
theorem dX0_cell_32 : decode cX0_cell 32 = .ok (.iadd, 1) := by decide +kernel
theorem dX0_cell_33 : decode cX0_cell 33 = .ok (.aload_n 0, 1) := by decide +kernel
theorem dX0_cell_34 : decode cX0_cell 34 = .ok (.getfield 15, 3) := by decide +kernel
theorem dX0_cell_37 : decode cX0_cell 37 = .ok (.iload_n 1, 1) := by decide +kernel
theorem dX0_cell_38 : decode cX0_cell 38 = .ok (.aload_n 0, 1) := by decide +kernel
theorem dX0_cell_39 : decode cX0_cell 39 = .ok (.getfield 18, 3) := by decide +kernel
theorem dX0_cell_42 : decode cX0_cell 42 = .ok (.idiv, 1) := by decide +kernel
theorem dX0_cell_43 : decode cX0_cell 43 = .ok (.iadd, 1) := by decide +kernel
theorem dX0_cell_44 : decode cX0_cell 44 = .ok (.invokestatic 28, 3) := by decide +kernel
theorem dX0_cell_47 : decode cX0_cell 47 = .ok (.ireturn, 1) := by decide +kernel
theorem dX0_holds_0 : decode cX0_holds 0 = .ok (.iload_n 1, 1) := by decide +kernel
theorem dX0_holds_1 : decode cX0_holds 1 = .ok (.iconst 0, 1) := by decide +kernel
theorem dX0_holds_2 : decode cX0_holds 2 = .ok (.invokestatic 32, 3) := by decide +kernel
theorem dX0_holds_5 : decode cX0_holds 5 = .ok (.aload_n 0, 1) := by decide +kernel
theorem dX0_holds_6 : decode cX0_holds 6 = .ok (.getfield 9, 3) := by decide +kernel
theorem dX0_holds_9 : decode cX0_holds 9 = .ok (.if_icmp .lt 53, 3) := by decide +kernel
theorem dX0_holds_12 : decode cX0_holds 12 = .ok (.iload_n 1, 1) := by decide +kernel
theorem dX0_holds_13 : decode cX0_holds 13 = .ok (.iconst 0, 1) := by decide +kernel
theorem dX0_holds_14 : decode cX0_holds 14 = .ok (.invokestatic 37, 3) := by decide +kernel
theorem dX0_holds_17 : decode cX0_holds 17 = .ok (.aload_n 0, 1) := by decide +kernel
theorem dX0_holds_18 : decode cX0_holds 18 = .ok (.getfield 9, 3) := by decide +kernel
theorem dX0_holds_21 : decode cX0_holds 21 = .ok (.aload_n 0, 1) := by decide +kernel
theorem dX0_holds_22 : decode cX0_holds 22 = .ok (.getfield 18, 3) := by decide +kernel
theorem dX0_holds_25 : decode cX0_holds 25 = .ok (.iadd, 1) := by decide +kernel
theorem dX0_holds_26 : decode cX0_holds 26 = .ok (.if_icmp .ge 36, 3) := by decide +kernel
theorem dX0_holds_29 : decode cX0_holds 29 = .ok (.iload_n 1, 1) := by decide +kernel
theorem dX0_holds_30 : decode cX0_holds 30 = .ok (.iconst 1, 1) := by decide +kernel
theorem dX0_holds_31 : decode cX0_holds 31 = .ok (.invokestatic 32, 3) := by decide +kernel
theorem dX0_holds_34 : decode cX0_holds 34 = .ok (.aload_n 0, 1) := by decide +kernel
theorem dX0_holds_35 : decode cX0_holds 35 = .ok (.getfield 15, 3) := by decide +kernel
theorem dX0_holds_38 : decode cX0_holds 38 = .ok (.if_icmp .lt 24, 3) := by decide +kernel
theorem dX0_holds_41 : decode cX0_holds 41 = .ok (.iload_n 1, 1) := by decide +kernel
theorem dX0_holds_42 : decode cX0_holds 42 = .ok (.iconst 1, 1) := by decide +kernel
theorem dX0_holds_43 : decode cX0_holds 43 = .ok (.invokestatic 37, 3) := by decide +kernel
theorem dX0_holds_46 : decode cX0_holds 46 = .ok (.aload_n 0, 1) := by decide +kernel
theorem dX0_holds_47 : decode cX0_holds 47 = .ok (.getfield 15, 3) := by decide +kernel
theorem dX0_holds_50 : decode cX0_holds 50 = .ok (.aload_n 0, 1) := by decide +kernel
theorem dX0_holds_51 : decode cX0_holds 51 = .ok (.getfield 21, 3) := by decide +kernel
theorem dX0_holds_54 : decode cX0_holds 54 = .ok (.iadd, 1) := by decide +kernel
theorem dX0_holds_55 : decode cX0_holds 55 = .ok (.if_icmp .ge 7, 3) := by decide +kernel
theorem dX0_holds_58 : decode cX0_holds 58 = .ok (.iconst 1, 1) := by decide +kernel
theorem dX0_holds_59 : decode cX0_holds 59 = .ok (.goto 4, 3) := by decide +kernel
theorem dX0_holds_62 : decode cX0_holds 62 = .ok (.iconst 0, 1) := by decide +kernel
theorem dX0_holds_63 : decode cX0_holds 63 = .ok (.ireturn, 1) := by decide +kernel
theorem dX1_init_0 : decode cX1_init 0 = .ok (.aload_n 0, 1) := by decide +kernel
theorem dX1_init_1 : decode cX1_init 1 = .ok (.invokespecial 3, 3) := by decide +kernel
theorem dX1_init_4 : decode cX1_init 4 = .ok (.aload_n 0, 1) := by decide +kernel
theorem dX1_init_5 : decode cX1_init 5 = .ok (.bipush 39, 2) := by decide +kernel
theorem dX1_init_7 : decode cX1_init 7 = .ok (.newarray .int, 2) := by decide +kernel
theorem dX1_init_9 : decode cX1_init 9 = .ok (.putfield 11, 3) := by decide +kernel
theorem dX1_init_12 : decode cX1_init 12 = .ok (.return_, 1) := by decide +kernel
theorem dX1_letterAt_0 : decode cX1_letterAt 0 = .ok (.iload_n 1, 1) := by decide +kernel
theorem dX1_letterAt_1 : decode cX1_letterAt 1 = .ok (.ifCond .lt 20, 3) := by decide +kernel
theorem dX1_letterAt_4 : decode cX1_letterAt 4 = .ok (.iload_n 1, 1) := by decide +kernel
theorem dX1_letterAt_5 : decode cX1_letterAt 5 = .ok (.aload_n 0, 1) := by decide +kernel
theorem dX1_letterAt_6 : decode cX1_letterAt 6 = .ok (.getfield 15, 3) := by decide +kernel
theorem dX1_letterAt_9 : decode cX1_letterAt 9 = .ok (.if_icmp .ge 12, 3) := by decide +kernel
theorem dX1_letterAt_12 : decode cX1_letterAt 12 = .ok (.aload_n 0, 1) := by decide +kernel
theorem dX1_letterAt_13 : decode cX1_letterAt 13 = .ok (.getfield 11, 3) := by decide +kernel
theorem dX1_letterAt_16 : decode cX1_letterAt 16 = .ok (.iload_n 1, 1) := by decide +kernel
theorem dX1_letterAt_17 : decode cX1_letterAt 17 = .ok (.iaload, 1) := by decide +kernel
theorem dX1_letterAt_18 : decode cX1_letterAt 18 = .ok (.goto 4, 3) := by decide +kernel
theorem dX1_letterAt_21 : decode cX1_letterAt 21 = .ok (.iconst (-1), 1) := by decide +kernel
theorem dX1_letterAt_22 : decode cX1_letterAt 22 = .ok (.ireturn, 1) := by decide +kernel
theorem dX1_write_0 : decode cX1_write 0 = .ok (.aload_n 0, 1) := by decide +kernel
theorem dX1_write_1 : decode cX1_write 1 = .ok (.iconst 0, 1) := by decide +kernel
theorem dX1_write_2 : decode cX1_write 2 = .ok (.putfield 15, 3) := by decide +kernel
theorem dX1_write_5 : decode cX1_write 5 = .ok (.aload_n 1, 1) := by decide +kernel
theorem dX1_write_6 : decode cX1_write 6 = .ok (.iload_n 2, 1) := by decide +kernel
theorem dX1_write_7 : decode cX1_write 7 = .ok (.invokevirtual 19, 3) := by decide +kernel
theorem dX1_write_10 : decode cX1_write 10 = .ok (.istore_n 3, 1) := by decide +kernel
theorem dX1_write_11 : decode cX1_write 11 = .ok (.iconst 0, 1) := by decide +kernel
theorem dX1_write_12 : decode cX1_write 12 = .ok (.istore 4, 2) := by decide +kernel
theorem dX1_write_14 : decode cX1_write 14 = .ok (.iload 4, 2) := by decide +kernel
theorem dX1_write_16 : decode cX1_write 16 = .ok (.iload_n 3, 1) := by decide +kernel
theorem dX1_write_17 : decode cX1_write 17 = .ok (.if_icmp .ge 31, 3) := by decide +kernel
theorem dX1_write_20 : decode cX1_write 20 = .ok (.iload 4, 2) := by decide +kernel
theorem dX1_write_22 : decode cX1_write 22 = .ok (.ifCond .le 9, 3) := by decide +kernel
theorem dX1_write_25 : decode cX1_write 25 = .ok (.aload_n 0, 1) := by decide +kernel
theorem dX1_write_26 : decode cX1_write 26 = .ok (.bipush 43, 2) := by decide +kernel
theorem dX1_write_28 : decode cX1_write 28 = .ok (.invokevirtual 25, 3) := by decide +kernel
theorem dX1_write_31 : decode cX1_write 31 = .ok (.aload_n 0, 1) := by decide +kernel
theorem dX1_write_32 : decode cX1_write 32 = .ok (.aload_n 1, 1) := by decide +kernel
theorem dX1_write_33 : decode cX1_write 33 = .ok (.iload_n 2, 1) := by decide +kernel
theorem dX1_write_34 : decode cX1_write 34 = .ok (.iload 4, 2) := by decide +kernel
theorem dX1_write_36 : decode cX1_write 36 = .ok (.invokevirtual 29, 3) := by decide +kernel
theorem dX1_write_39 : decode cX1_write 39 = .ok (.invokevirtual 33, 3) := by decide +kernel
theorem dX1_write_42 : decode cX1_write 42 = .ok (.iinc 4 1, 3) := by decide +kernel
theorem dX1_write_45 : decode cX1_write 45 = .ok (.goto (-31), 3) := by decide +kernel
theorem dX1_write_48 : decode cX1_write 48 = .ok (.return_, 1) := by decide +kernel
theorem dX1_writeTerm_0 : decode cX1_writeTerm 0 = .ok (.iload_n 1, 1) := by decide +kernel
theorem dX1_writeTerm_1 : decode cX1_writeTerm 1 = .ok (.invokestatic 36, 3) := by decide +kernel
theorem dX1_writeTerm_4 : decode cX1_writeTerm 4 = .ok (.tableswitch 69 1 3 #[28, 39, 48], 28) := by decide +kernel
theorem dX1_writeTerm_32 : decode cX1_writeTerm 32 = .ok (.aload_n 0, 1) := by decide +kernel
theorem dX1_writeTerm_33 : decode cX1_writeTerm 33 = .ok (.iload_n 1, 1) := by decide +kernel
theorem dX1_writeTerm_34 : decode cX1_writeTerm 34 = .ok (.invokestatic 41, 3) := by decide +kernel
theorem dX1_writeTerm_37 : decode cX1_writeTerm 37 = .ok (.invokevirtual 44, 3) := by decide +kernel
theorem dX1_writeTerm_40 : decode cX1_writeTerm 40 = .ok (.goto 39, 3) := by decide +kernel
theorem dX1_writeTerm_43 : decode cX1_writeTerm 43 = .ok (.aload_n 0, 1) := by decide +kernel
theorem dX1_writeTerm_44 : decode cX1_writeTerm 44 = .ok (.iload_n 1, 1) := by decide +kernel
theorem dX1_writeTerm_45 : decode cX1_writeTerm 45 = .ok (.iconst 0, 1) := by decide +kernel
theorem dX1_writeTerm_46 : decode cX1_writeTerm 46 = .ok (.invokevirtual 47, 3) := by decide +kernel
theorem dX1_writeTerm_49 : decode cX1_writeTerm 49 = .ok (.goto 30, 3) := by decide +kernel
theorem dX1_writeTerm_52 : decode cX1_writeTerm 52 = .ok (.aload_n 0, 1) := by decide +kernel
theorem dX1_writeTerm_53 : decode cX1_writeTerm 53 = .ok (.iload_n 1, 1) := by decide +kernel
theorem dX1_writeTerm_54 : decode cX1_writeTerm 54 = .ok (.iconst 0, 1) := by decide +kernel
theorem dX1_writeTerm_55 : decode cX1_writeTerm 55 = .ok (.invokevirtual 47, 3) := by decide +kernel
theorem dX1_writeTerm_58 : decode cX1_writeTerm 58 = .ok (.aload_n 0, 1) := by decide +kernel
theorem dX1_writeTerm_59 : decode cX1_writeTerm 59 = .ok (.bipush 58, 2) := by decide +kernel
theorem dX1_writeTerm_61 : decode cX1_writeTerm 61 = .ok (.invokevirtual 25, 3) := by decide +kernel
theorem dX1_writeTerm_64 : decode cX1_writeTerm 64 = .ok (.aload_n 0, 1) := by decide +kernel
theorem dX1_writeTerm_65 : decode cX1_writeTerm 65 = .ok (.iload_n 1, 1) := by decide +kernel
theorem dX1_writeTerm_66 : decode cX1_writeTerm 66 = .ok (.iconst 2, 1) := by decide +kernel
theorem dX1_writeTerm_67 : decode cX1_writeTerm 67 = .ok (.invokevirtual 47, 3) := by decide +kernel
theorem dX1_writeTerm_70 : decode cX1_writeTerm 70 = .ok (.goto 9, 3) := by decide +kernel
theorem dX1_writeTerm_73 : decode cX1_writeTerm 73 = .ok (.aload_n 0, 1) := by decide +kernel
theorem dX1_writeTerm_74 : decode cX1_writeTerm 74 = .ok (.bipush 35, 2) := by decide +kernel
theorem dX1_writeTerm_76 : decode cX1_writeTerm 76 = .ok (.invokevirtual 25, 3) := by decide +kernel
theorem dX1_writeTerm_79 : decode cX1_writeTerm 79 = .ok (.return_, 1) := by decide +kernel
theorem dX1_writeNumber_0 : decode cX1_writeNumber 0 = .ok (.iload_n 1, 1) := by decide +kernel
theorem dX1_writeNumber_1 : decode cX1_writeNumber 1 = .ok (.bipush 100, 2) := by decide +kernel
theorem dX1_writeNumber_3 : decode cX1_writeNumber 3 = .ok (.if_icmp .lt 14, 3) := by decide +kernel
theorem dX1_writeNumber_6 : decode cX1_writeNumber 6 = .ok (.aload_n 0, 1) := by decide +kernel
theorem dX1_writeNumber_7 : decode cX1_writeNumber 7 = .ok (.bipush 48, 2) := by decide +kernel
theorem dX1_writeNumber_9 : decode cX1_writeNumber 9 = .ok (.iload_n 1, 1) := by decide +kernel
theorem dX1_writeNumber_10 : decode cX1_writeNumber 10 = .ok (.bipush 100, 2) := by decide +kernel
theorem dX1_writeNumber_12 : decode cX1_writeNumber 12 = .ok (.idiv, 1) := by decide +kernel
theorem dX1_writeNumber_13 : decode cX1_writeNumber 13 = .ok (.iadd, 1) := by decide +kernel
theorem dX1_writeNumber_14 : decode cX1_writeNumber 14 = .ok (.invokevirtual 25, 3) := by decide +kernel
theorem dX1_writeNumber_17 : decode cX1_writeNumber 17 = .ok (.iload_n 1, 1) := by decide +kernel
theorem dX1_writeNumber_18 : decode cX1_writeNumber 18 = .ok (.bipush 10, 2) := by decide +kernel
theorem dX1_writeNumber_20 : decode cX1_writeNumber 20 = .ok (.if_icmp .lt 17, 3) := by decide +kernel
theorem dX1_writeNumber_23 : decode cX1_writeNumber 23 = .ok (.aload_n 0, 1) := by decide +kernel
theorem dX1_writeNumber_24 : decode cX1_writeNumber 24 = .ok (.bipush 48, 2) := by decide +kernel
theorem dX1_writeNumber_26 : decode cX1_writeNumber 26 = .ok (.iload_n 1, 1) := by decide +kernel
theorem dX1_writeNumber_27 : decode cX1_writeNumber 27 = .ok (.bipush 10, 2) := by decide +kernel
theorem dX1_writeNumber_29 : decode cX1_writeNumber 29 = .ok (.idiv, 1) := by decide +kernel
theorem dX1_writeNumber_30 : decode cX1_writeNumber 30 = .ok (.bipush 10, 2) := by decide +kernel
theorem dX1_writeNumber_32 : decode cX1_writeNumber 32 = .ok (.irem, 1) := by decide +kernel
theorem dX1_writeNumber_33 : decode cX1_writeNumber 33 = .ok (.iadd, 1) := by decide +kernel
theorem dX1_writeNumber_34 : decode cX1_writeNumber 34 = .ok (.invokevirtual 25, 3) := by decide +kernel
theorem dX1_writeNumber_37 : decode cX1_writeNumber 37 = .ok (.aload_n 0, 1) := by decide +kernel
theorem dX1_writeNumber_38 : decode cX1_writeNumber 38 = .ok (.bipush 48, 2) := by decide +kernel
theorem dX1_writeNumber_40 : decode cX1_writeNumber 40 = .ok (.iload_n 1, 1) := by decide +kernel
theorem dX1_writeNumber_41 : decode cX1_writeNumber 41 = .ok (.bipush 10, 2) := by decide +kernel
theorem dX1_writeNumber_43 : decode cX1_writeNumber 43 = .ok (.irem, 1) := by decide +kernel
theorem dX1_writeNumber_44 : decode cX1_writeNumber 44 = .ok (.iadd, 1) := by decide +kernel
theorem dX1_writeNumber_45 : decode cX1_writeNumber 45 = .ok (.invokevirtual 25, 3) := by decide +kernel
theorem dX1_writeNumber_48 : decode cX1_writeNumber 48 = .ok (.return_, 1) := by decide +kernel
theorem dX1_writePlace_0 : decode cX1_writePlace 0 = .ok (.iload_n 1, 1) := by decide +kernel
theorem dX1_writePlace_1 : decode cX1_writePlace 1 = .ok (.invokestatic 51, 3) := by decide +kernel
theorem dX1_writePlace_4 : decode cX1_writePlace 4 = .ok (.iload_n 2, 1) := by decide +kernel
theorem dX1_writePlace_5 : decode cX1_writePlace 5 = .ok (.ishr, 1) := by decide +kernel
theorem dX1_writePlace_6 : decode cX1_writePlace 6 = .ok (.istore_n 3, 1) := by decide +kernel
theorem dX1_writePlace_7 : decode cX1_writePlace 7 = .ok (.iload_n 3, 1) := by decide +kernel
theorem dX1_writePlace_8 : decode cX1_writePlace 8 = .ok (.iconst 1, 1) := by decide +kernel
theorem dX1_writePlace_9 : decode cX1_writePlace 9 = .ok (.iand, 1) := by decide +kernel
theorem dX1_writePlace_10 : decode cX1_writePlace 10 = .ok (.ifCond .eq 9, 3) := by decide +kernel
theorem dX1_writePlace_13 : decode cX1_writePlace 13 = .ok (.aload_n 0, 1) := by decide +kernel
theorem dX1_writePlace_14 : decode cX1_writePlace 14 = .ok (.bipush 36, 2) := by decide +kernel
theorem dX1_writePlace_16 : decode cX1_writePlace 16 = .ok (.invokevirtual 25, 3) := by decide +kernel
theorem dX1_writePlace_19 : decode cX1_writePlace 19 = .ok (.aload_n 0, 1) := by decide +kernel
theorem dX1_writePlace_20 : decode cX1_writePlace 20 = .ok (.bipush 65, 2) := by decide +kernel
theorem dX1_writePlace_22 : decode cX1_writePlace 22 = .ok (.iload_n 1, 1) := by decide +kernel
theorem dX1_writePlace_23 : decode cX1_writePlace 23 = .ok (.iload_n 2, 1) := by decide +kernel
theorem dX1_writePlace_24 : decode cX1_writePlace 24 = .ok (.invokestatic 54, 3) := by decide +kernel
theorem dX1_writePlace_27 : decode cX1_writePlace 27 = .ok (.iadd, 1) := by decide +kernel
theorem dX1_writePlace_28 : decode cX1_writePlace 28 = .ok (.invokevirtual 25, 3) := by decide +kernel
theorem dX1_writePlace_31 : decode cX1_writePlace 31 = .ok (.iload_n 3, 1) := by decide +kernel
theorem dX1_writePlace_32 : decode cX1_writePlace 32 = .ok (.iconst 2, 1) := by decide +kernel
theorem dX1_writePlace_33 : decode cX1_writePlace 33 = .ok (.iand, 1) := by decide +kernel
theorem dX1_writePlace_34 : decode cX1_writePlace 34 = .ok (.ifCond .eq 9, 3) := by decide +kernel
theorem dX1_writePlace_37 : decode cX1_writePlace 37 = .ok (.aload_n 0, 1) := by decide +kernel
theorem dX1_writePlace_38 : decode cX1_writePlace 38 = .ok (.bipush 36, 2) := by decide +kernel
theorem dX1_writePlace_40 : decode cX1_writePlace 40 = .ok (.invokevirtual 25, 3) := by decide +kernel
theorem dX1_writePlace_43 : decode cX1_writePlace 43 = .ok (.aload_n 0, 1) := by decide +kernel
theorem dX1_writePlace_44 : decode cX1_writePlace 44 = .ok (.bipush 49, 2) := by decide +kernel
theorem dX1_writePlace_46 : decode cX1_writePlace 46 = .ok (.iload_n 1, 1) := by decide +kernel
theorem dX1_writePlace_47 : decode cX1_writePlace 47 = .ok (.iload_n 2, 1) := by decide +kernel
theorem dX1_writePlace_48 : decode cX1_writePlace 48 = .ok (.iconst 1, 1) := by decide +kernel
theorem dX1_writePlace_49 : decode cX1_writePlace 49 = .ok (.iadd, 1) := by decide +kernel
theorem dX1_writePlace_50 : decode cX1_writePlace 50 = .ok (.invokestatic 54, 3) := by decide +kernel
theorem dX1_writePlace_53 : decode cX1_writePlace 53 = .ok (.iadd, 1) := by decide +kernel
theorem dX1_writePlace_54 : decode cX1_writePlace 54 = .ok (.invokevirtual 25, 3) := by decide +kernel
theorem dX1_writePlace_57 : decode cX1_writePlace 57 = .ok (.return_, 1) := by decide +kernel
theorem dX1_add_0 : decode cX1_add 0 = .ok (.aload_n 0, 1) := by decide +kernel
theorem dX1_add_1 : decode cX1_add 1 = .ok (.getfield 15, 3) := by decide +kernel
theorem dX1_add_4 : decode cX1_add 4 = .ok (.bipush 39, 2) := by decide +kernel
theorem dX1_add_6 : decode cX1_add 6 = .ok (.if_icmp .ge 23, 3) := by decide +kernel
theorem dX1_add_9 : decode cX1_add 9 = .ok (.aload_n 0, 1) := by decide +kernel
theorem dX1_add_10 : decode cX1_add 10 = .ok (.getfield 11, 3) := by decide +kernel
theorem dX1_add_13 : decode cX1_add 13 = .ok (.aload_n 0, 1) := by decide +kernel
theorem dX1_add_14 : decode cX1_add 14 = .ok (.getfield 15, 3) := by decide +kernel
theorem dX1_add_17 : decode cX1_add 17 = .ok (.iload_n 1, 1) := by decide +kernel
theorem dX1_add_18 : decode cX1_add 18 = .ok (.iastore, 1) := by decide +kernel
theorem dX1_add_19 : decode cX1_add 19 = .ok (.aload_n 0, 1) := by decide +kernel
theorem dX1_add_20 : decode cX1_add 20 = .ok (.dup, 1) := by decide +kernel
theorem dX1_add_21 : decode cX1_add 21 = .ok (.getfield 15, 3) := by decide +kernel
theorem dX1_add_24 : decode cX1_add 24 = .ok (.iconst 1, 1) := by decide +kernel
theorem dX1_add_25 : decode cX1_add 25 = .ok (.iadd, 1) := by decide +kernel
theorem dX1_add_26 : decode cX1_add 26 = .ok (.putfield 15, 3) := by decide +kernel
theorem dX1_add_29 : decode cX1_add 29 = .ok (.return_, 1) := by decide +kernel
theorem dX2_init_0 : decode cX2_init 0 = .ok (.aload_n 0, 1) := by decide +kernel
theorem dX2_init_1 : decode cX2_init 1 = .ok (.invokespecial 3, 3) := by decide +kernel
theorem dX2_init_4 : decode cX2_init 4 = .ok (.aload_n 0, 1) := by decide +kernel
theorem dX2_init_5 : decode cX2_init 5 = .ok (.sipush 864, 3) := by decide +kernel
theorem dX2_init_8 : decode cX2_init 8 = .ok (.newarray .int, 2) := by decide +kernel
theorem dX2_init_10 : decode cX2_init 10 = .ok (.putfield 11, 3) := by decide +kernel
theorem dX2_init_13 : decode cX2_init 13 = .ok (.return_, 1) := by decide +kernel
theorem dX2_keep_0 : decode cX2_keep 0 = .ok (.aload_n 1, 1) := by decide +kernel
theorem dX2_keep_1 : decode cX2_keep 1 = .ok (.getfield 15, 3) := by decide +kernel
theorem dX2_keep_4 : decode cX2_keep 4 = .ok (.iconst 0, 1) := by decide +kernel
theorem dX2_keep_5 : decode cX2_keep 5 = .ok (.aload_n 0, 1) := by decide +kernel
theorem dX2_keep_6 : decode cX2_keep 6 = .ok (.getfield 11, 3) := by decide +kernel
theorem dX2_keep_9 : decode cX2_keep 9 = .ok (.aload_n 0, 1) := by decide +kernel
theorem dX2_keep_10 : decode cX2_keep 10 = .ok (.getfield 20, 3) := by decide +kernel
theorem dX2_keep_13 : decode cX2_keep 13 = .ok (.sipush 144, 3) := by decide +kernel
theorem dX2_keep_16 : decode cX2_keep 16 = .ok (.imul, 1) := by decide +kernel
theorem dX2_keep_17 : decode cX2_keep 17 = .ok (.sipush 144, 3) := by decide +kernel
theorem dX2_keep_20 : decode cX2_keep 20 = .ok (.invokestatic 24, 3) := by decide +kernel
theorem dX2_keep_23 : decode cX2_keep 23 = .ok (.aload_n 0, 1) := by decide +kernel
theorem dX2_keep_24 : decode cX2_keep 24 = .ok (.aload_n 0, 1) := by decide +kernel
theorem dX2_keep_25 : decode cX2_keep 25 = .ok (.getfield 20, 3) := by decide +kernel
theorem dX2_keep_28 : decode cX2_keep 28 = .ok (.iconst 1, 1) := by decide +kernel
theorem dX2_keep_29 : decode cX2_keep 29 = .ok (.iadd, 1) := by decide +kernel
theorem dX2_keep_30 : decode cX2_keep 30 = .ok (.bipush 6, 2) := by decide +kernel
theorem dX2_keep_32 : decode cX2_keep 32 = .ok (.irem, 1) := by decide +kernel
theorem dX2_keep_33 : decode cX2_keep 33 = .ok (.putfield 20, 3) := by decide +kernel
theorem dX2_keep_36 : decode cX2_keep 36 = .ok (.aload_n 0, 1) := by decide +kernel
theorem dX2_keep_37 : decode cX2_keep 37 = .ok (.aload_n 0, 1) := by decide +kernel
theorem dX2_keep_38 : decode cX2_keep 38 = .ok (.getfield 30, 3) := by decide +kernel
theorem dX2_keep_41 : decode cX2_keep 41 = .ok (.iconst 1, 1) := by decide +kernel
theorem dX2_keep_42 : decode cX2_keep 42 = .ok (.iadd, 1) := by decide +kernel
theorem dX2_keep_43 : decode cX2_keep 43 = .ok (.bipush 6, 2) := by decide +kernel
theorem dX2_keep_45 : decode cX2_keep 45 = .ok (.invokestatic 33, 3) := by decide +kernel
theorem dX2_keep_48 : decode cX2_keep 48 = .ok (.putfield 30, 3) := by decide +kernel
theorem dX2_keep_51 : decode cX2_keep 51 = .ok (.return_, 1) := by decide +kernel
theorem dX2_restore_0 : decode cX2_restore 0 = .ok (.aload_n 0, 1) := by decide +kernel
theorem dX2_restore_1 : decode cX2_restore 1 = .ok (.getfield 30, 3) := by decide +kernel
theorem dX2_restore_4 : decode cX2_restore 4 = .ok (.ifCond .ne 4, 3) := by decide +kernel
theorem dX2_restore_7 : decode cX2_restore 7 = .ok (.return_, 1) := by decide +kernel
theorem dX2_restore_8 : decode cX2_restore 8 = .ok (.aload_n 0, 1) := by decide +kernel
theorem dX2_restore_9 : decode cX2_restore 9 = .ok (.aload_n 0, 1) := by decide +kernel
theorem dX2_restore_10 : decode cX2_restore 10 = .ok (.getfield 20, 3) := by decide +kernel
theorem dX2_restore_13 : decode cX2_restore 13 = .ok (.bipush 6, 2) := by decide +kernel
theorem dX2_restore_15 : decode cX2_restore 15 = .ok (.iadd, 1) := by decide +kernel
theorem dX2_restore_16 : decode cX2_restore 16 = .ok (.iconst 1, 1) := by decide +kernel
theorem dX2_restore_17 : decode cX2_restore 17 = .ok (.isub, 1) := by decide +kernel
theorem dX2_restore_18 : decode cX2_restore 18 = .ok (.bipush 6, 2) := by decide +kernel
theorem dX2_restore_20 : decode cX2_restore 20 = .ok (.irem, 1) := by decide +kernel
theorem dX2_restore_21 : decode cX2_restore 21 = .ok (.putfield 20, 3) := by decide +kernel
theorem dX2_restore_24 : decode cX2_restore 24 = .ok (.aload_n 0, 1) := by decide +kernel
theorem dX2_restore_25 : decode cX2_restore 25 = .ok (.dup, 1) := by decide +kernel
theorem dX2_restore_26 : decode cX2_restore 26 = .ok (.getfield 30, 3) := by decide +kernel
theorem dX2_restore_29 : decode cX2_restore 29 = .ok (.iconst 1, 1) := by decide +kernel
theorem dX2_restore_30 : decode cX2_restore 30 = .ok (.isub, 1) := by decide +kernel
theorem dX2_restore_31 : decode cX2_restore 31 = .ok (.putfield 30, 3) := by decide +kernel
theorem dX2_restore_34 : decode cX2_restore 34 = .ok (.aload_n 0, 1) := by decide +kernel
theorem dX2_restore_35 : decode cX2_restore 35 = .ok (.getfield 11, 3) := by decide +kernel
theorem dX2_restore_38 : decode cX2_restore 38 = .ok (.aload_n 0, 1) := by decide +kernel
theorem dX2_restore_39 : decode cX2_restore 39 = .ok (.getfield 20, 3) := by decide +kernel
theorem dX2_restore_42 : decode cX2_restore 42 = .ok (.sipush 144, 3) := by decide +kernel
theorem dX2_restore_45 : decode cX2_restore 45 = .ok (.imul, 1) := by decide +kernel
theorem dX2_restore_46 : decode cX2_restore 46 = .ok (.aload_n 1, 1) := by decide +kernel
theorem dX2_restore_47 : decode cX2_restore 47 = .ok (.getfield 15, 3) := by decide +kernel
theorem dX2_restore_50 : decode cX2_restore 50 = .ok (.iconst 0, 1) := by decide +kernel
theorem dX2_restore_51 : decode cX2_restore 51 = .ok (.sipush 144, 3) := by decide +kernel
theorem dX2_restore_54 : decode cX2_restore 54 = .ok (.invokestatic 24, 3) := by decide +kernel
theorem dX2_restore_57 : decode cX2_restore 57 = .ok (.return_, 1) := by decide +kernel
theorem dX3_init_0 : decode cX3_init 0 = .ok (.aload_n 0, 1) := by decide +kernel
theorem dX3_init_1 : decode cX3_init 1 = .ok (.invokespecial 3, 3) := by decide +kernel
theorem dX3_init_4 : decode cX3_init 4 = .ok (.aload_n 0, 1) := by decide +kernel
theorem dX3_init_5 : decode cX3_init 5 = .ok (.iconst 4, 1) := by decide +kernel
theorem dX3_init_6 : decode cX3_init 6 = .ok (.newarray .int, 2) := by decide +kernel
theorem dX3_init_8 : decode cX3_init 8 = .ok (.putfield 9, 3) := by decide +kernel
theorem dX3_init_11 : decode cX3_init 11 = .ok (.aload_n 0, 1) := by decide +kernel
theorem dX3_init_12 : decode cX3_init 12 = .ok (.aload_n 1, 1) := by decide +kernel
theorem dX3_init_13 : decode cX3_init 13 = .ok (.putfield 15, 3) := by decide +kernel
theorem dX3_init_16 : decode cX3_init 16 = .ok (.return_, 1) := by decide +kernel
theorem dX3_read_0 : decode cX3_read 0 = .ok (.aload_n 0, 1) := by decide +kernel
theorem dX3_read_1 : decode cX3_read 1 = .ok (.getfield 9, 3) := by decide +kernel
theorem dX3_read_4 : decode cX3_read 4 = .ok (.iconst 0, 1) := by decide +kernel
theorem dX3_read_5 : decode cX3_read 5 = .ok (.invokestatic 21, 3) := by decide +kernel
theorem dX3_read_8 : decode cX3_read 8 = .ok (.aload_n 0, 1) := by decide +kernel
theorem dX3_read_9 : decode cX3_read 9 = .ok (.iconst 0, 1) := by decide +kernel
theorem dX3_read_10 : decode cX3_read 10 = .ok (.putfield 27, 3) := by decide +kernel
theorem dX3_read_13 : decode cX3_read 13 = .ok (.iconst 0, 1) := by decide +kernel
theorem dX3_read_14 : decode cX3_read 14 = .ok (.istore_n 1, 1) := by decide +kernel
theorem dX3_read_15 : decode cX3_read 15 = .ok (.iconst 1, 1) := by decide +kernel
theorem dX3_read_16 : decode cX3_read 16 = .ok (.istore_n 2, 1) := by decide +kernel
theorem dX3_read_17 : decode cX3_read 17 = .ok (.iload_n 2, 1) := by decide +kernel
theorem dX3_read_18 : decode cX3_read 18 = .ok (.ifCond .eq 39, 3) := by decide +kernel
theorem dX3_read_21 : decode cX3_read 21 = .ok (.iload_n 1, 1) := by decide +kernel
theorem dX3_read_22 : decode cX3_read 22 = .ok (.iconst 4, 1) := by decide +kernel
theorem dX3_read_23 : decode cX3_read 23 = .ok (.if_icmp .ge 34, 3) := by decide +kernel
theorem dX3_read_26 : decode cX3_read 26 = .ok (.aload_n 0, 1) := by decide +kernel
theorem dX3_read_27 : decode cX3_read 27 = .ok (.invokevirtual 31, 3) := by decide +kernel
theorem dX3_read_30 : decode cX3_read 30 = .ok (.istore_n 3, 1) := by decide +kernel
theorem dX3_read_31 : decode cX3_read 31 = .ok (.iload_n 3, 1) := by decide +kernel
theorem dX3_read_32 : decode cX3_read 32 = .ok (.ifCond .ne 5, 3) := by decide +kernel
theorem dX3_read_35 : decode cX3_read 35 = .ok (.iconst 0, 1) := by decide +kernel
theorem dX3_read_36 : decode cX3_read 36 = .ok (.ireturn, 1) := by decide +kernel
theorem dX3_read_37 : decode cX3_read 37 = .ok (.aload_n 0, 1) := by decide +kernel
theorem dX3_read_38 : decode cX3_read 38 = .ok (.getfield 9, 3) := by decide +kernel
theorem dX3_read_41 : decode cX3_read 41 = .ok (.iload_n 1, 1) := by decide +kernel
theorem dX3_read_42 : decode cX3_read 42 = .ok (.iload_n 3, 1) := by decide +kernel
theorem dX3_read_43 : decode cX3_read 43 = .ok (.iastore, 1) := by decide +kernel
theorem dX3_read_44 : decode cX3_read 44 = .ok (.iinc 1 1, 3) := by decide +kernel
theorem dX3_read_47 : decode cX3_read 47 = .ok (.aload_n 0, 1) := by decide +kernel
theorem dX3_read_48 : decode cX3_read 48 = .ok (.bipush 43, 2) := by decide +kernel
theorem dX3_read_50 : decode cX3_read 50 = .ok (.invokevirtual 35, 3) := by decide +kernel
theorem dX3_read_53 : decode cX3_read 53 = .ok (.istore_n 2, 1) := by decide +kernel
theorem dX3_read_54 : decode cX3_read 54 = .ok (.goto (-37), 3) := by decide +kernel
theorem dX3_read_57 : decode cX3_read 57 = .ok (.iload_n 2, 1) := by decide +kernel
theorem dX3_read_58 : decode cX3_read 58 = .ok (.ifCond .ne 15, 3) := by decide +kernel
theorem dX3_read_61 : decode cX3_read 61 = .ok (.aload_n 0, 1) := by decide +kernel
theorem dX3_read_62 : decode cX3_read 62 = .ok (.invokevirtual 39, 3) := by decide +kernel
theorem dX3_read_65 : decode cX3_read 65 = .ok (.iconst (-1), 1) := by decide +kernel
theorem dX3_read_66 : decode cX3_read 66 = .ok (.if_icmp .ne 7, 3) := by decide +kernel
theorem dX3_read_69 : decode cX3_read 69 = .ok (.iload_n 1, 1) := by decide +kernel
theorem dX3_read_70 : decode cX3_read 70 = .ok (.goto 4, 3) := by decide +kernel
theorem dX3_read_73 : decode cX3_read 73 = .ok (.iconst 0, 1) := by decide +kernel
theorem dX3_read_74 : decode cX3_read 74 = .ok (.ireturn, 1) := by decide +kernel
theorem dX3_fault_0 : decode cX3_fault 0 = .ok (.aload_n 0, 1) := by decide +kernel
theorem dX3_fault_1 : decode cX3_fault 1 = .ok (.invokevirtual 39, 3) := by decide +kernel
theorem dX3_fault_4 : decode cX3_fault 4 = .ok (.pop, 1) := by decide +kernel
theorem dX3_fault_5 : decode cX3_fault 5 = .ok (.aload_n 0, 1) := by decide +kernel
theorem dX3_fault_6 : decode cX3_fault 6 = .ok (.getfield 27, 3) := by decide +kernel
theorem dX3_fault_9 : decode cX3_fault 9 = .ok (.ireturn, 1) := by decide +kernel
theorem dX3_readTerm_0 : decode cX3_readTerm 0 = .ok (.aload_n 0, 1) := by decide +kernel
theorem dX3_readTerm_1 : decode cX3_readTerm 1 = .ok (.invokevirtual 39, 3) := by decide +kernel
theorem dX3_readTerm_4 : decode cX3_readTerm 4 = .ok (.invokestatic 44, 3) := by decide +kernel
theorem dX3_readTerm_7 : decode cX3_readTerm 7 = .ok (.ifCond .eq 8, 3) := by decide +kernel
theorem dX3_readTerm_10 : decode cX3_readTerm 10 = .ok (.aload_n 0, 1) := by decide +kernel
theorem dX3_readTerm_11 : decode cX3_readTerm 11 = .ok (.invokevirtual 47, 3) := by decide +kernel
theorem dX3_readTerm_14 : decode cX3_readTerm 14 = .ok (.ireturn, 1) := by decide +kernel
theorem dX3_readTerm_15 : decode cX3_readTerm 15 = .ok (.aload_n 0, 1) := by decide +kernel
theorem dX3_readTerm_16 : decode cX3_readTerm 16 = .ok (.bipush 35, 2) := by decide +kernel
theorem dX3_readTerm_18 : decode cX3_readTerm 18 = .ok (.invokevirtual 35, 3) := by decide +kernel
theorem dX3_readTerm_21 : decode cX3_readTerm 21 = .ok (.ifCond .eq 5, 3) := by decide +kernel
theorem dX3_readTerm_24 : decode cX3_readTerm 24 = .ok (.iconst 4, 1) := by decide +kernel
theorem dX3_readTerm_25 : decode cX3_readTerm 25 = .ok (.ireturn, 1) := by decide +kernel
theorem dX3_readTerm_26 : decode cX3_readTerm 26 = .ok (.aload_n 0, 1) := by decide +kernel
theorem dX3_readTerm_27 : decode cX3_readTerm 27 = .ok (.invokevirtual 50, 3) := by decide +kernel
theorem dX3_readTerm_30 : decode cX3_readTerm 30 = .ok (.ireturn, 1) := by decide +kernel
theorem dX3_readNumber_0 : decode cX3_readNumber 0 = .ok (.iconst 0, 1) := by decide +kernel
theorem dX3_readNumber_1 : decode cX3_readNumber 1 = .ok (.istore_n 1, 1) := by decide +kernel
theorem dX3_readNumber_2 : decode cX3_readNumber 2 = .ok (.iconst 0, 1) := by decide +kernel
theorem dX3_readNumber_3 : decode cX3_readNumber 3 = .ok (.istore_n 2, 1) := by decide +kernel
theorem dX3_readNumber_4 : decode cX3_readNumber 4 = .ok (.iload_n 2, 1) := by decide +kernel
theorem dX3_readNumber_5 : decode cX3_readNumber 5 = .ok (.iconst 3, 1) := by decide +kernel
theorem dX3_readNumber_6 : decode cX3_readNumber 6 = .ok (.if_icmp .ge 56, 3) := by decide +kernel
theorem dX3_readNumber_9 : decode cX3_readNumber 9 = .ok (.aload_n 0, 1) := by decide +kernel
theorem dX3_readNumber_10 : decode cX3_readNumber 10 = .ok (.getfield 15, 3) := by decide +kernel
theorem dX3_readNumber_13 : decode cX3_readNumber 13 = .ok (.aload_n 0, 1) := by decide +kernel
theorem dX3_readNumber_14 : decode cX3_readNumber 14 = .ok (.getfield 27, 3) := by decide +kernel
theorem dX3_readNumber_17 : decode cX3_readNumber 17 = .ok (.invokevirtual 53, 3) := by decide +kernel
theorem dX3_readNumber_20 : decode cX3_readNumber 20 = .ok (.invokestatic 44, 3) := by decide +kernel
theorem dX3_readNumber_23 : decode cX3_readNumber 23 = .ok (.ifCond .eq 39, 3) := by decide +kernel
theorem dX3_readNumber_26 : decode cX3_readNumber 26 = .ok (.bipush 10, 2) := by decide +kernel
theorem dX3_readNumber_28 : decode cX3_readNumber 28 = .ok (.iload_n 1, 1) := by decide +kernel
theorem dX3_readNumber_29 : decode cX3_readNumber 29 = .ok (.imul, 1) := by decide +kernel
theorem dX3_readNumber_30 : decode cX3_readNumber 30 = .ok (.aload_n 0, 1) := by decide +kernel
theorem dX3_readNumber_31 : decode cX3_readNumber 31 = .ok (.getfield 15, 3) := by decide +kernel
theorem dX3_readNumber_34 : decode cX3_readNumber 34 = .ok (.aload_n 0, 1) := by decide +kernel
theorem dX3_readNumber_35 : decode cX3_readNumber 35 = .ok (.getfield 27, 3) := by decide +kernel
theorem dX3_readNumber_38 : decode cX3_readNumber 38 = .ok (.invokevirtual 53, 3) := by decide +kernel
theorem dX3_readNumber_41 : decode cX3_readNumber 41 = .ok (.iadd, 1) := by decide +kernel
theorem dX3_readNumber_42 : decode cX3_readNumber 42 = .ok (.bipush 48, 2) := by decide +kernel
theorem dX3_readNumber_44 : decode cX3_readNumber 44 = .ok (.isub, 1) := by decide +kernel
theorem dX3_readNumber_45 : decode cX3_readNumber 45 = .ok (.istore_n 1, 1) := by decide +kernel
theorem dX3_readNumber_46 : decode cX3_readNumber 46 = .ok (.aload_n 0, 1) := by decide +kernel
theorem dX3_readNumber_47 : decode cX3_readNumber 47 = .ok (.dup, 1) := by decide +kernel
theorem dX3_readNumber_48 : decode cX3_readNumber 48 = .ok (.getfield 27, 3) := by decide +kernel
theorem dX3_readNumber_51 : decode cX3_readNumber 51 = .ok (.iconst 1, 1) := by decide +kernel
theorem dX3_readNumber_52 : decode cX3_readNumber 52 = .ok (.iadd, 1) := by decide +kernel
theorem dX3_readNumber_53 : decode cX3_readNumber 53 = .ok (.putfield 27, 3) := by decide +kernel
theorem dX3_readNumber_56 : decode cX3_readNumber 56 = .ok (.iinc 2 1, 3) := by decide +kernel
theorem dX3_readNumber_59 : decode cX3_readNumber 59 = .ok (.goto (-55), 3) := by decide +kernel
theorem dX3_readNumber_62 : decode cX3_readNumber 62 = .ok (.iload_n 1, 1) := by decide +kernel
theorem dX3_readNumber_63 : decode cX3_readNumber 63 = .ok (.invokestatic 57, 3) := by decide +kernel
theorem dX3_readNumber_66 : decode cX3_readNumber 66 = .ok (.ireturn, 1) := by decide +kernel
theorem dX3_readReference_0 : decode cX3_readReference 0 = .ok (.aload_n 0, 1) := by decide +kernel
theorem dX3_readReference_1 : decode cX3_readReference 1 = .ok (.invokevirtual 60, 3) := by decide +kernel
theorem dX3_readReference_4 : decode cX3_readReference 4 = .ok (.istore_n 1, 1) := by decide +kernel
theorem dX3_readReference_5 : decode cX3_readReference 5 = .ok (.iload_n 1, 1) := by decide +kernel
theorem dX3_readReference_6 : decode cX3_readReference 6 = .ok (.ifCond .eq 12, 3) := by decide +kernel
theorem dX3_readReference_9 : decode cX3_readReference 9 = .ok (.aload_n 0, 1) := by decide +kernel
theorem dX3_readReference_10 : decode cX3_readReference 10 = .ok (.bipush 58, 2) := by decide +kernel
theorem dX3_readReference_12 : decode cX3_readReference 12 = .ok (.invokevirtual 35, 3) := by decide +kernel
theorem dX3_readReference_15 : decode cX3_readReference 15 = .ok (.ifCond .ne 5, 3) := by decide +kernel
theorem dX3_readReference_18 : decode cX3_readReference 18 = .ok (.iload_n 1, 1) := by decide +kernel
theorem dX3_readReference_19 : decode cX3_readReference 19 = .ok (.ireturn, 1) := by decide +kernel
theorem dX3_readReference_20 : decode cX3_readReference 20 = .ok (.aload_n 0, 1) := by decide +kernel
theorem dX3_readReference_21 : decode cX3_readReference 21 = .ok (.invokevirtual 60, 3) := by decide +kernel
theorem dX3_readReference_24 : decode cX3_readReference 24 = .ok (.istore_n 2, 1) := by decide +kernel
theorem dX3_readReference_25 : decode cX3_readReference 25 = .ok (.iload_n 2, 1) := by decide +kernel
theorem dX3_readReference_26 : decode cX3_readReference 26 = .ok (.ifCond .ne 7, 3) := by decide +kernel
theorem dX3_readReference_29 : decode cX3_readReference 29 = .ok (.iconst 0, 1) := by decide +kernel
theorem dX3_readReference_30 : decode cX3_readReference 30 = .ok (.goto 8, 3) := by decide +kernel
theorem dX3_readReference_33 : decode cX3_readReference 33 = .ok (.iload_n 1, 1) := by decide +kernel
theorem dX3_readReference_34 : decode cX3_readReference 34 = .ok (.iload_n 2, 1) := by decide +kernel
theorem dX3_readReference_35 : decode cX3_readReference 35 = .ok (.invokestatic 63, 3) := by decide +kernel
theorem dX3_readReference_38 : decode cX3_readReference 38 = .ok (.ireturn, 1) := by decide +kernel
theorem dX3_readPlace_0 : decode cX3_readPlace 0 = .ok (.aload_n 0, 1) := by decide +kernel
theorem dX3_readPlace_1 : decode cX3_readPlace 1 = .ok (.bipush 36, 2) := by decide +kernel
theorem dX3_readPlace_3 : decode cX3_readPlace 3 = .ok (.invokevirtual 35, 3) := by decide +kernel
theorem dX3_readPlace_6 : decode cX3_readPlace 6 = .ok (.ifCond .eq 7, 3) := by decide +kernel
theorem dX3_readPlace_9 : decode cX3_readPlace 9 = .ok (.iconst 1, 1) := by decide +kernel
theorem dX3_readPlace_10 : decode cX3_readPlace 10 = .ok (.goto 4, 3) := by decide +kernel
theorem dX3_readPlace_13 : decode cX3_readPlace 13 = .ok (.iconst 0, 1) := by decide +kernel
theorem dX3_readPlace_14 : decode cX3_readPlace 14 = .ok (.istore_n 1, 1) := by decide +kernel
theorem dX3_readPlace_15 : decode cX3_readPlace 15 = .ok (.aload_n 0, 1) := by decide +kernel
theorem dX3_readPlace_16 : decode cX3_readPlace 16 = .ok (.invokevirtual 39, 3) := by decide +kernel
theorem dX3_readPlace_19 : decode cX3_readPlace 19 = .ok (.invokestatic 67, 3) := by decide +kernel
theorem dX3_readPlace_22 : decode cX3_readPlace 22 = .ok (.istore_n 2, 1) := by decide +kernel
theorem dX3_readPlace_23 : decode cX3_readPlace 23 = .ok (.iload_n 2, 1) := by decide +kernel
theorem dX3_readPlace_24 : decode cX3_readPlace 24 = .ok (.iconst (-1), 1) := by decide +kernel
theorem dX3_readPlace_25 : decode cX3_readPlace 25 = .ok (.if_icmp .ne 5, 3) := by decide +kernel
theorem dX3_readPlace_28 : decode cX3_readPlace 28 = .ok (.iconst 0, 1) := by decide +kernel
theorem dX3_readPlace_29 : decode cX3_readPlace 29 = .ok (.ireturn, 1) := by decide +kernel
theorem dX3_readPlace_30 : decode cX3_readPlace 30 = .ok (.aload_n 0, 1) := by decide +kernel
theorem dX3_readPlace_31 : decode cX3_readPlace 31 = .ok (.dup, 1) := by decide +kernel
theorem dX3_readPlace_32 : decode cX3_readPlace 32 = .ok (.getfield 27, 3) := by decide +kernel
theorem dX3_readPlace_35 : decode cX3_readPlace 35 = .ok (.iconst 1, 1) := by decide +kernel
theorem dX3_readPlace_36 : decode cX3_readPlace 36 = .ok (.iadd, 1) := by decide +kernel
theorem dX3_readPlace_37 : decode cX3_readPlace 37 = .ok (.putfield 27, 3) := by decide +kernel
theorem dX3_readPlace_40 : decode cX3_readPlace 40 = .ok (.iload_n 1, 1) := by decide +kernel
theorem dX3_readPlace_41 : decode cX3_readPlace 41 = .ok (.aload_n 0, 1) := by decide +kernel
theorem dX3_readPlace_42 : decode cX3_readPlace 42 = .ok (.bipush 36, 2) := by decide +kernel
theorem dX3_readPlace_44 : decode cX3_readPlace 44 = .ok (.invokevirtual 35, 3) := by decide +kernel
theorem dX3_readPlace_47 : decode cX3_readPlace 47 = .ok (.ifCond .eq 7, 3) := by decide +kernel
theorem dX3_readPlace_50 : decode cX3_readPlace 50 = .ok (.iconst 2, 1) := by decide +kernel
theorem dX3_readPlace_51 : decode cX3_readPlace 51 = .ok (.goto 4, 3) := by decide +kernel
theorem dX3_readPlace_54 : decode cX3_readPlace 54 = .ok (.iconst 0, 1) := by decide +kernel
theorem dX3_readPlace_55 : decode cX3_readPlace 55 = .ok (.iadd, 1) := by decide +kernel
theorem dX3_readPlace_56 : decode cX3_readPlace 56 = .ok (.istore_n 1, 1) := by decide +kernel
theorem dX3_readPlace_57 : decode cX3_readPlace 57 = .ok (.aload_n 0, 1) := by decide +kernel
theorem dX3_readPlace_58 : decode cX3_readPlace 58 = .ok (.invokevirtual 39, 3) := by decide +kernel
theorem dX3_readPlace_61 : decode cX3_readPlace 61 = .ok (.bipush 49, 2) := by decide +kernel
theorem dX3_readPlace_63 : decode cX3_readPlace 63 = .ok (.isub, 1) := by decide +kernel
theorem dX3_readPlace_64 : decode cX3_readPlace 64 = .ok (.istore_n 3, 1) := by decide +kernel
theorem dX3_readPlace_65 : decode cX3_readPlace 65 = .ok (.iload_n 3, 1) := by decide +kernel
theorem dX3_readPlace_66 : decode cX3_readPlace 66 = .ok (.iconst 0, 1) := by decide +kernel
theorem dX3_readPlace_67 : decode cX3_readPlace 67 = .ok (.iconst 5, 1) := by decide +kernel
theorem dX3_readPlace_68 : decode cX3_readPlace 68 = .ok (.invokestatic 70, 3) := by decide +kernel
theorem dX3_readPlace_71 : decode cX3_readPlace 71 = .ok (.ifCond .ne 5, 3) := by decide +kernel
theorem dX3_readPlace_74 : decode cX3_readPlace 74 = .ok (.iconst 0, 1) := by decide +kernel
theorem dX3_readPlace_75 : decode cX3_readPlace 75 = .ok (.ireturn, 1) := by decide +kernel
theorem dX3_readPlace_76 : decode cX3_readPlace 76 = .ok (.aload_n 0, 1) := by decide +kernel
theorem dX3_readPlace_77 : decode cX3_readPlace 77 = .ok (.dup, 1) := by decide +kernel
theorem dX3_readPlace_78 : decode cX3_readPlace 78 = .ok (.getfield 27, 3) := by decide +kernel
theorem dX3_readPlace_81 : decode cX3_readPlace 81 = .ok (.iconst 1, 1) := by decide +kernel
theorem dX3_readPlace_82 : decode cX3_readPlace 82 = .ok (.iadd, 1) := by decide +kernel
theorem dX3_readPlace_83 : decode cX3_readPlace 83 = .ok (.putfield 27, 3) := by decide +kernel
theorem dX3_readPlace_86 : decode cX3_readPlace 86 = .ok (.iload_n 2, 1) := by decide +kernel
theorem dX3_readPlace_87 : decode cX3_readPlace 87 = .ok (.iload_n 3, 1) := by decide +kernel
theorem dX3_readPlace_88 : decode cX3_readPlace 88 = .ok (.iload_n 1, 1) := by decide +kernel
theorem dX3_readPlace_89 : decode cX3_readPlace 89 = .ok (.invokestatic 74, 3) := by decide +kernel
theorem dX3_readPlace_92 : decode cX3_readPlace 92 = .ok (.ireturn, 1) := by decide +kernel
theorem dX3_takes_0 : decode cX3_takes 0 = .ok (.aload_n 0, 1) := by decide +kernel
theorem dX3_takes_1 : decode cX3_takes 1 = .ok (.invokevirtual 39, 3) := by decide +kernel
theorem dX3_takes_4 : decode cX3_takes 4 = .ok (.iload_n 1, 1) := by decide +kernel
theorem dX3_takes_5 : decode cX3_takes 5 = .ok (.if_icmp .eq 5, 3) := by decide +kernel
theorem dX3_takes_8 : decode cX3_takes 8 = .ok (.iconst 0, 1) := by decide +kernel
theorem dX3_takes_9 : decode cX3_takes 9 = .ok (.ireturn, 1) := by decide +kernel
theorem dX3_takes_10 : decode cX3_takes 10 = .ok (.aload_n 0, 1) := by decide +kernel
theorem dX3_takes_11 : decode cX3_takes 11 = .ok (.dup, 1) := by decide +kernel
theorem dX3_takes_12 : decode cX3_takes 12 = .ok (.getfield 27, 3) := by decide +kernel
theorem dX3_takes_15 : decode cX3_takes 15 = .ok (.iconst 1, 1) := by decide +kernel
theorem dX3_takes_16 : decode cX3_takes 16 = .ok (.iadd, 1) := by decide +kernel
theorem dX3_takes_17 : decode cX3_takes 17 = .ok (.putfield 27, 3) := by decide +kernel
theorem dX3_takes_20 : decode cX3_takes 20 = .ok (.iconst 1, 1) := by decide +kernel
theorem dX3_takes_21 : decode cX3_takes 21 = .ok (.ireturn, 1) := by decide +kernel
theorem dX3_next_0 : decode cX3_next 0 = .ok (.aload_n 0, 1) := by decide +kernel
theorem dX3_next_1 : decode cX3_next 1 = .ok (.getfield 27, 3) := by decide +kernel
theorem dX3_next_4 : decode cX3_next 4 = .ok (.aload_n 0, 1) := by decide +kernel
theorem dX3_next_5 : decode cX3_next 5 = .ok (.getfield 15, 3) := by decide +kernel
theorem dX3_next_8 : decode cX3_next 8 = .ok (.getfield 78, 3) := by decide +kernel
theorem dX3_next_11 : decode cX3_next 11 = .ok (.if_icmp .ge 32, 3) := by decide +kernel
theorem dX3_next_14 : decode cX3_next 14 = .ok (.aload_n 0, 1) := by decide +kernel
theorem dX3_next_15 : decode cX3_next 15 = .ok (.getfield 15, 3) := by decide +kernel
theorem dX3_next_18 : decode cX3_next 18 = .ok (.aload_n 0, 1) := by decide +kernel
theorem dX3_next_19 : decode cX3_next 19 = .ok (.getfield 27, 3) := by decide +kernel
theorem dX3_next_22 : decode cX3_next 22 = .ok (.invokevirtual 53, 3) := by decide +kernel
theorem dX3_next_25 : decode cX3_next 25 = .ok (.bipush 32, 2) := by decide +kernel
theorem dX3_next_27 : decode cX3_next 27 = .ok (.if_icmp .ne 16, 3) := by decide +kernel
theorem dX3_next_30 : decode cX3_next 30 = .ok (.aload_n 0, 1) := by decide +kernel
theorem dX3_next_31 : decode cX3_next 31 = .ok (.dup, 1) := by decide +kernel
theorem dX3_next_32 : decode cX3_next 32 = .ok (.getfield 27, 3) := by decide +kernel
theorem dX3_next_35 : decode cX3_next 35 = .ok (.iconst 1, 1) := by decide +kernel
theorem dX3_next_36 : decode cX3_next 36 = .ok (.iadd, 1) := by decide +kernel
theorem dX3_next_37 : decode cX3_next 37 = .ok (.putfield 27, 3) := by decide +kernel
theorem dX3_next_40 : decode cX3_next 40 = .ok (.goto (-40), 3) := by decide +kernel
theorem dX3_next_43 : decode cX3_next 43 = .ok (.aload_n 0, 1) := by decide +kernel
theorem dX3_next_44 : decode cX3_next 44 = .ok (.getfield 15, 3) := by decide +kernel
theorem dX3_next_47 : decode cX3_next 47 = .ok (.aload_n 0, 1) := by decide +kernel
theorem dX3_next_48 : decode cX3_next 48 = .ok (.getfield 27, 3) := by decide +kernel
theorem dX3_next_51 : decode cX3_next 51 = .ok (.invokevirtual 53, 3) := by decide +kernel
theorem dX3_next_54 : decode cX3_next 54 = .ok (.ireturn, 1) := by decide +kernel
theorem dX3_isFigure_0 : decode cX3_isFigure 0 = .ok (.iload_n 0, 1) := by decide +kernel
theorem dX3_isFigure_1 : decode cX3_isFigure 1 = .ok (.bipush 48, 2) := by decide +kernel
theorem dX3_isFigure_3 : decode cX3_isFigure 3 = .ok (.if_icmp .lt 13, 3) := by decide +kernel
theorem dX3_isFigure_6 : decode cX3_isFigure 6 = .ok (.iload_n 0, 1) := by decide +kernel
theorem dX3_isFigure_7 : decode cX3_isFigure 7 = .ok (.bipush 57, 2) := by decide +kernel
theorem dX3_isFigure_9 : decode cX3_isFigure 9 = .ok (.if_icmp .gt 7, 3) := by decide +kernel
theorem dX3_isFigure_12 : decode cX3_isFigure 12 = .ok (.iconst 1, 1) := by decide +kernel
theorem dX3_isFigure_13 : decode cX3_isFigure 13 = .ok (.goto 4, 3) := by decide +kernel
theorem dX3_isFigure_16 : decode cX3_isFigure 16 = .ok (.iconst 0, 1) := by decide +kernel
theorem dX3_isFigure_17 : decode cX3_isFigure 17 = .ok (.ireturn, 1) := by decide +kernel
theorem dX3_columnNamed_0 : decode cX3_columnNamed 0 = .ok (.iload_n 0, 1) := by decide +kernel
theorem dX3_columnNamed_1 : decode cX3_columnNamed 1 = .ok (.bipush 97, 2) := by decide +kernel
theorem dX3_columnNamed_3 : decode cX3_columnNamed 3 = .ok (.if_icmp .lt 10, 3) := by decide +kernel
theorem dX3_columnNamed_6 : decode cX3_columnNamed 6 = .ok (.iload_n 0, 1) := by decide +kernel
theorem dX3_columnNamed_7 : decode cX3_columnNamed 7 = .ok (.bipush 97, 2) := by decide +kernel
theorem dX3_columnNamed_9 : decode cX3_columnNamed 9 = .ok (.isub, 1) := by decide +kernel
theorem dX3_columnNamed_10 : decode cX3_columnNamed 10 = .ok (.goto 7, 3) := by decide +kernel
theorem dX3_columnNamed_13 : decode cX3_columnNamed 13 = .ok (.iload_n 0, 1) := by decide +kernel
theorem dX3_columnNamed_14 : decode cX3_columnNamed 14 = .ok (.bipush 65, 2) := by decide +kernel
theorem dX3_columnNamed_16 : decode cX3_columnNamed 16 = .ok (.isub, 1) := by decide +kernel
theorem dX3_columnNamed_17 : decode cX3_columnNamed 17 = .ok (.istore_n 1, 1) := by decide +kernel
theorem dX3_columnNamed_18 : decode cX3_columnNamed 18 = .ok (.iload_n 1, 1) := by decide +kernel
theorem dX3_columnNamed_19 : decode cX3_columnNamed 19 = .ok (.iconst 0, 1) := by decide +kernel
theorem dX3_columnNamed_20 : decode cX3_columnNamed 20 = .ok (.iconst 5, 1) := by decide +kernel
theorem dX3_columnNamed_21 : decode cX3_columnNamed 21 = .ok (.invokestatic 70, 3) := by decide +kernel
theorem dX3_columnNamed_24 : decode cX3_columnNamed 24 = .ok (.ifCond .eq 7, 3) := by decide +kernel
theorem dX3_columnNamed_27 : decode cX3_columnNamed 27 = .ok (.iload_n 1, 1) := by decide +kernel
theorem dX3_columnNamed_28 : decode cX3_columnNamed 28 = .ok (.goto 4, 3) := by decide +kernel
theorem dX3_columnNamed_31 : decode cX3_columnNamed 31 = .ok (.iconst (-1), 1) := by decide +kernel
theorem dX3_columnNamed_32 : decode cX3_columnNamed 32 = .ok (.ireturn, 1) := by decide +kernel
theorem dX4_init_0 : decode cX4_init 0 = .ok (.aload_n 0, 1) := by decide +kernel
theorem dX4_init_1 : decode cX4_init 1 = .ok (.invokespecial 3, 3) := by decide +kernel
theorem dX4_init_4 : decode cX4_init 4 = .ok (.aload_n 0, 1) := by decide +kernel
theorem dX4_init_5 : decode cX4_init 5 = .ok (.sipush 144, 3) := by decide +kernel
theorem dX4_init_8 : decode cX4_init 8 = .ok (.newarray .int, 2) := by decide +kernel
theorem dX4_init_10 : decode cX4_init 10 = .ok (.putfield 9, 3) := by decide +kernel
theorem dX4_init_13 : decode cX4_init 13 = .ok (.aload_n 0, 1) := by decide +kernel
theorem dX4_init_14 : decode cX4_init 14 = .ok (.sipush 144, 3) := by decide +kernel
theorem dX4_init_17 : decode cX4_init 17 = .ok (.newarray .int, 2) := by decide +kernel
theorem dX4_init_19 : decode cX4_init 19 = .ok (.putfield 15, 3) := by decide +kernel
theorem dX4_init_22 : decode cX4_init 22 = .ok (.return_, 1) := by decide +kernel
theorem dX4_termOf_0 : decode cX4_termOf 0 = .ok (.iload_n 1, 1) := by decide +kernel
theorem dX4_termOf_1 : decode cX4_termOf 1 = .ok (.invokestatic 18, 3) := by decide +kernel
theorem dX4_termOf_4 : decode cX4_termOf 4 = .ok (.ifCond .eq 12, 3) := by decide +kernel
theorem dX4_termOf_7 : decode cX4_termOf 7 = .ok (.iload_n 2, 1) := by decide +kernel
theorem dX4_termOf_8 : decode cX4_termOf 8 = .ok (.iconst 0, 1) := by decide +kernel
theorem dX4_termOf_9 : decode cX4_termOf 9 = .ok (.iconst 3, 1) := by decide +kernel
theorem dX4_termOf_10 : decode cX4_termOf 10 = .ok (.invokestatic 22, 3) := by decide +kernel
theorem dX4_termOf_13 : decode cX4_termOf 13 = .ok (.ifCond .ne 5, 3) := by decide +kernel
theorem dX4_termOf_16 : decode cX4_termOf 16 = .ok (.iconst 0, 1) := by decide +kernel
theorem dX4_termOf_17 : decode cX4_termOf 17 = .ok (.ireturn, 1) := by decide +kernel
theorem dX4_termOf_18 : decode cX4_termOf 18 = .ok (.aload_n 0, 1) := by decide +kernel
theorem dX4_termOf_19 : decode cX4_termOf 19 = .ok (.getfield 9, 3) := by decide +kernel
theorem dX4_termOf_22 : decode cX4_termOf 22 = .ok (.iload_n 1, 1) := by decide +kernel
theorem dX4_termOf_23 : decode cX4_termOf 23 = .ok (.iconst 4, 1) := by decide +kernel
theorem dX4_termOf_24 : decode cX4_termOf 24 = .ok (.imul, 1) := by decide +kernel
theorem dX4_termOf_25 : decode cX4_termOf 25 = .ok (.iload_n 2, 1) := by decide +kernel
theorem dX4_termOf_26 : decode cX4_termOf 26 = .ok (.iadd, 1) := by decide +kernel
theorem dX4_termOf_27 : decode cX4_termOf 27 = .ok (.iaload, 1) := by decide +kernel
theorem dX4_termOf_28 : decode cX4_termOf 28 = .ok (.ireturn, 1) := by decide +kernel
theorem dX4_sizeOf_0 : decode cX4_sizeOf 0 = .ok (.iconst 0, 1) := by decide +kernel
theorem dX4_sizeOf_1 : decode cX4_sizeOf 1 = .ok (.istore_n 2, 1) := by decide +kernel
theorem dX4_sizeOf_2 : decode cX4_sizeOf 2 = .ok (.iload_n 2, 1) := by decide +kernel
theorem dX4_sizeOf_3 : decode cX4_sizeOf 3 = .ok (.iconst 4, 1) := by decide +kernel
theorem dX4_sizeOf_4 : decode cX4_sizeOf 4 = .ok (.if_icmp .ge 18, 3) := by decide +kernel
theorem dX4_sizeOf_7 : decode cX4_sizeOf 7 = .ok (.aload_n 0, 1) := by decide +kernel
theorem dX4_sizeOf_8 : decode cX4_sizeOf 8 = .ok (.iload_n 1, 1) := by decide +kernel
theorem dX4_sizeOf_9 : decode cX4_sizeOf 9 = .ok (.iload_n 2, 1) := by decide +kernel
theorem dX4_sizeOf_10 : decode cX4_sizeOf 10 = .ok (.invokevirtual 28, 3) := by decide +kernel
theorem dX4_sizeOf_13 : decode cX4_sizeOf 13 = .ok (.ifCond .eq 9, 3) := by decide +kernel
theorem dX4_sizeOf_16 : decode cX4_sizeOf 16 = .ok (.iinc 2 1, 3) := by decide +kernel
theorem dX4_sizeOf_19 : decode cX4_sizeOf 19 = .ok (.goto (-17), 3) := by decide +kernel
theorem dX4_sizeOf_22 : decode cX4_sizeOf 22 = .ok (.iload_n 2, 1) := by decide +kernel
theorem dX4_sizeOf_23 : decode cX4_sizeOf 23 = .ok (.ireturn, 1) := by decide +kernel
theorem dX4_isEmpty_0 : decode cX4_isEmpty 0 = .ok (.aload_n 0, 1) := by decide +kernel
theorem dX4_isEmpty_1 : decode cX4_isEmpty 1 = .ok (.iload_n 1, 1) := by decide +kernel
theorem dX4_isEmpty_2 : decode cX4_isEmpty 2 = .ok (.iconst 0, 1) := by decide +kernel
theorem dX4_isEmpty_3 : decode cX4_isEmpty 3 = .ok (.invokevirtual 28, 3) := by decide +kernel
theorem dX4_isEmpty_6 : decode cX4_isEmpty 6 = .ok (.ifCond .ne 7, 3) := by decide +kernel
theorem dX4_isEmpty_9 : decode cX4_isEmpty 9 = .ok (.iconst 1, 1) := by decide +kernel
theorem dX4_isEmpty_10 : decode cX4_isEmpty 10 = .ok (.goto 4, 3) := by decide +kernel
theorem dX4_isEmpty_13 : decode cX4_isEmpty 13 = .ok (.iconst 0, 1) := by decide +kernel
theorem dX4_isEmpty_14 : decode cX4_isEmpty 14 = .ok (.ireturn, 1) := by decide +kernel
theorem dX4_fill_0 : decode cX4_fill 0 = .ok (.iload_n 1, 1) := by decide +kernel
theorem dX4_fill_1 : decode cX4_fill 1 = .ok (.invokestatic 18, 3) := by decide +kernel
theorem dX4_fill_4 : decode cX4_fill 4 = .ok (.ifCond .eq 22, 3) := by decide +kernel
theorem dX4_fill_7 : decode cX4_fill 7 = .ok (.aload_n 2, 1) := by decide +kernel
theorem dX4_fill_8 : decode cX4_fill 8 = .ok (.arraylength, 1) := by decide +kernel
theorem dX4_fill_9 : decode cX4_fill 9 = .ok (.iconst 4, 1) := by decide +kernel
theorem dX4_fill_10 : decode cX4_fill 10 = .ok (.if_icmp .lt 16, 3) := by decide +kernel
theorem dX4_fill_13 : decode cX4_fill 13 = .ok (.aload_n 2, 1) := by decide +kernel
theorem dX4_fill_14 : decode cX4_fill 14 = .ok (.iconst 0, 1) := by decide +kernel
theorem dX4_fill_15 : decode cX4_fill 15 = .ok (.aload_n 0, 1) := by decide +kernel
theorem dX4_fill_16 : decode cX4_fill 16 = .ok (.getfield 9, 3) := by decide +kernel
theorem dX4_fill_19 : decode cX4_fill 19 = .ok (.iload_n 1, 1) := by decide +kernel
theorem dX4_fill_20 : decode cX4_fill 20 = .ok (.iconst 4, 1) := by decide +kernel
theorem dX4_fill_21 : decode cX4_fill 21 = .ok (.imul, 1) := by decide +kernel
theorem dX4_fill_22 : decode cX4_fill 22 = .ok (.iconst 4, 1) := by decide +kernel
theorem dX4_fill_23 : decode cX4_fill 23 = .ok (.invokestatic 32, 3) := by decide +kernel
theorem dX4_fill_26 : decode cX4_fill 26 = .ok (.return_, 1) := by decide +kernel
theorem dX4_drop_0 : decode cX4_drop 0 = .ok (.iconst 0, 1) := by decide +kernel
theorem dX4_drop_1 : decode cX4_drop 1 = .ok (.istore_n 2, 1) := by decide +kernel
theorem dX4_drop_2 : decode cX4_drop 2 = .ok (.iload_n 2, 1) := by decide +kernel
theorem dX4_drop_3 : decode cX4_drop 3 = .ok (.iconst 4, 1) := by decide +kernel
theorem dX4_drop_4 : decode cX4_drop 4 = .ok (.if_icmp .ge 27, 3) := by decide +kernel
theorem dX4_drop_7 : decode cX4_drop 7 = .ok (.iload_n 1, 1) := by decide +kernel
theorem dX4_drop_8 : decode cX4_drop 8 = .ok (.invokestatic 18, 3) := by decide +kernel
theorem dX4_drop_11 : decode cX4_drop 11 = .ok (.ifCond .eq 20, 3) := by decide +kernel
theorem dX4_drop_14 : decode cX4_drop 14 = .ok (.aload_n 0, 1) := by decide +kernel
theorem dX4_drop_15 : decode cX4_drop 15 = .ok (.getfield 9, 3) := by decide +kernel
theorem dX4_drop_18 : decode cX4_drop 18 = .ok (.iload_n 1, 1) := by decide +kernel
theorem dX4_drop_19 : decode cX4_drop 19 = .ok (.iconst 4, 1) := by decide +kernel
theorem dX4_drop_20 : decode cX4_drop 20 = .ok (.imul, 1) := by decide +kernel
theorem dX4_drop_21 : decode cX4_drop 21 = .ok (.iload_n 2, 1) := by decide +kernel
theorem dX4_drop_22 : decode cX4_drop 22 = .ok (.iadd, 1) := by decide +kernel
theorem dX4_drop_23 : decode cX4_drop 23 = .ok (.iconst 0, 1) := by decide +kernel
theorem dX4_drop_24 : decode cX4_drop 24 = .ok (.iastore, 1) := by decide +kernel
theorem dX4_drop_25 : decode cX4_drop 25 = .ok (.iinc 2 1, 3) := by decide +kernel
theorem dX4_drop_28 : decode cX4_drop 28 = .ok (.goto (-26), 3) := by decide +kernel
theorem dX4_drop_31 : decode cX4_drop 31 = .ok (.return_, 1) := by decide +kernel
theorem dX4_wouldLose_0 : decode cX4_wouldLose 0 = .ok (.iconst 0, 1) := by decide +kernel
theorem dX4_wouldLose_1 : decode cX4_wouldLose 1 = .ok (.istore 4, 2) := by decide +kernel
theorem dX4_wouldLose_3 : decode cX4_wouldLose 3 = .ok (.iload 4, 2) := by decide +kernel
theorem dX4_wouldLose_5 : decode cX4_wouldLose 5 = .ok (.bipush 36, 2) := by decide +kernel
theorem dX4_wouldLose_7 : decode cX4_wouldLose 7 = .ok (.if_icmp .ge 35, 3) := by decide +kernel
theorem dX4_wouldLose_10 : decode cX4_wouldLose 10 = .ok (.aload_n 0, 1) := by decide +kernel
theorem dX4_wouldLose_11 : decode cX4_wouldLose 11 = .ok (.iload 4, 2) := by decide +kernel
theorem dX4_wouldLose_13 : decode cX4_wouldLose 13 = .ok (.invokevirtual 38, 3) := by decide +kernel
theorem dX4_wouldLose_16 : decode cX4_wouldLose 16 = .ok (.ifCond .ne 20, 3) := by decide +kernel
theorem dX4_wouldLose_19 : decode cX4_wouldLose 19 = .ok (.iload 4, 2) := by decide +kernel
theorem dX4_wouldLose_21 : decode cX4_wouldLose 21 = .ok (.iload_n 1, 1) := by decide +kernel
theorem dX4_wouldLose_22 : decode cX4_wouldLose 22 = .ok (.invokestatic 41, 3) := by decide +kernel
theorem dX4_wouldLose_25 : decode cX4_wouldLose 25 = .ok (.iload_n 2, 1) := by decide +kernel
theorem dX4_wouldLose_26 : decode cX4_wouldLose 26 = .ok (.iload_n 3, 1) := by decide +kernel
theorem dX4_wouldLose_27 : decode cX4_wouldLose 27 = .ok (.invokestatic 44, 3) := by decide +kernel
theorem dX4_wouldLose_30 : decode cX4_wouldLose 30 = .ok (.iconst (-1), 1) := by decide +kernel
theorem dX4_wouldLose_31 : decode cX4_wouldLose 31 = .ok (.if_icmp .ne 5, 3) := by decide +kernel
theorem dX4_wouldLose_34 : decode cX4_wouldLose 34 = .ok (.iconst 1, 1) := by decide +kernel
theorem dX4_wouldLose_35 : decode cX4_wouldLose 35 = .ok (.ireturn, 1) := by decide +kernel
theorem dX4_wouldLose_36 : decode cX4_wouldLose 36 = .ok (.iinc 4 1, 3) := by decide +kernel
theorem dX4_wouldLose_39 : decode cX4_wouldLose 39 = .ok (.goto (-36), 3) := by decide +kernel
theorem dX4_wouldLose_42 : decode cX4_wouldLose 42 = .ok (.iconst 0, 1) := by decide +kernel
theorem dX4_wouldLose_43 : decode cX4_wouldLose 43 = .ok (.ireturn, 1) := by decide +kernel
theorem dX4_openLines_0 : decode cX4_openLines 0 = .ok (.aload_n 0, 1) := by decide +kernel
theorem dX4_openLines_1 : decode cX4_openLines 1 = .ok (.invokevirtual 48, 3) := by decide +kernel
theorem dX4_openLines_4 : decode cX4_openLines 4 = .ok (.aload_n 0, 1) := by decide +kernel
theorem dX4_openLines_5 : decode cX4_openLines 5 = .ok (.getfield 9, 3) := by decide +kernel
theorem dX4_openLines_8 : decode cX4_openLines 8 = .ok (.iconst 0, 1) := by decide +kernel
theorem dX4_openLines_9 : decode cX4_openLines 9 = .ok (.invokestatic 51, 3) := by decide +kernel
theorem dX4_openLines_12 : decode cX4_openLines 12 = .ok (.iconst 0, 1) := by decide +kernel
theorem dX4_openLines_13 : decode cX4_openLines 13 = .ok (.istore 4, 2) := by decide +kernel
theorem dX4_openLines_15 : decode cX4_openLines 15 = .ok (.iload 4, 2) := by decide +kernel
theorem dX4_openLines_17 : decode cX4_openLines 17 = .ok (.bipush 36, 2) := by decide +kernel
theorem dX4_openLines_19 : decode cX4_openLines 19 = .ok (.if_icmp .ge 27, 3) := by decide +kernel
theorem dX4_openLines_22 : decode cX4_openLines 22 = .ok (.aload_n 0, 1) := by decide +kernel
theorem dX4_openLines_23 : decode cX4_openLines 23 = .ok (.iload 4, 2) := by decide +kernel
theorem dX4_openLines_25 : decode cX4_openLines 25 = .ok (.iload_n 1, 1) := by decide +kernel
theorem dX4_openLines_26 : decode cX4_openLines 26 = .ok (.iload 4, 2) := by decide +kernel
theorem dX4_openLines_28 : decode cX4_openLines 28 = .ok (.iload_n 1, 1) := by decide +kernel
theorem dX4_openLines_29 : decode cX4_openLines 29 = .ok (.invokestatic 41, 3) := by decide +kernel
theorem dX4_openLines_32 : decode cX4_openLines 32 = .ok (.iload_n 2, 1) := by decide +kernel
theorem dX4_openLines_33 : decode cX4_openLines 33 = .ok (.iload_n 3, 1) := by decide +kernel
theorem dX4_openLines_34 : decode cX4_openLines 34 = .ok (.invokestatic 44, 3) := by decide +kernel
theorem dX4_openLines_37 : decode cX4_openLines 37 = .ok (.invokevirtual 57, 3) := by decide +kernel
theorem dX4_openLines_40 : decode cX4_openLines 40 = .ok (.iinc 4 1, 3) := by decide +kernel
theorem dX4_openLines_43 : decode cX4_openLines 43 = .ok (.goto (-28), 3) := by decide +kernel
theorem dX4_openLines_46 : decode cX4_openLines 46 = .ok (.iconst 0, 1) := by decide +kernel
theorem dX4_openLines_47 : decode cX4_openLines 47 = .ok (.istore 4, 2) := by decide +kernel
theorem dX4_openLines_49 : decode cX4_openLines 49 = .ok (.iload 4, 2) := by decide +kernel
theorem dX4_openLines_51 : decode cX4_openLines 51 = .ok (.sipush 144, 3) := by decide +kernel
theorem dX4_openLines_54 : decode cX4_openLines 54 = .ok (.if_icmp .ge 29, 3) := by decide +kernel
theorem dX4_openLines_57 : decode cX4_openLines 57 = .ok (.aload_n 0, 1) := by decide +kernel
theorem dX4_openLines_58 : decode cX4_openLines 58 = .ok (.getfield 9, 3) := by decide +kernel
theorem dX4_openLines_61 : decode cX4_openLines 61 = .ok (.iload 4, 2) := by decide +kernel
theorem dX4_openLines_63 : decode cX4_openLines 63 = .ok (.aload_n 0, 1) := by decide +kernel
theorem dX4_openLines_64 : decode cX4_openLines 64 = .ok (.getfield 9, 3) := by decide +kernel
theorem dX4_openLines_67 : decode cX4_openLines 67 = .ok (.iload 4, 2) := by decide +kernel
theorem dX4_openLines_69 : decode cX4_openLines 69 = .ok (.iaload, 1) := by decide +kernel
theorem dX4_openLines_70 : decode cX4_openLines 70 = .ok (.iload_n 1, 1) := by decide +kernel
theorem dX4_openLines_71 : decode cX4_openLines 71 = .ok (.iload_n 2, 1) := by decide +kernel
theorem dX4_openLines_72 : decode cX4_openLines 72 = .ok (.iload_n 3, 1) := by decide +kernel
theorem dX4_openLines_73 : decode cX4_openLines 73 = .ok (.invokestatic 61, 3) := by decide +kernel
theorem dX4_openLines_76 : decode cX4_openLines 76 = .ok (.iastore, 1) := by decide +kernel
theorem dX4_openLines_77 : decode cX4_openLines 77 = .ok (.iinc 4 1, 3) := by decide +kernel
theorem dX4_openLines_80 : decode cX4_openLines 80 = .ok (.goto (-31), 3) := by decide +kernel
theorem dX4_openLines_83 : decode cX4_openLines 83 = .ok (.return_, 1) := by decide +kernel
theorem dX4_closeLines_0 : decode cX4_closeLines 0 = .ok (.aload_n 0, 1) := by decide +kernel
theorem dX4_closeLines_1 : decode cX4_closeLines 1 = .ok (.invokevirtual 48, 3) := by decide +kernel
theorem dX4_closeLines_4 : decode cX4_closeLines 4 = .ok (.aload_n 0, 1) := by decide +kernel
theorem dX4_closeLines_5 : decode cX4_closeLines 5 = .ok (.getfield 9, 3) := by decide +kernel
theorem dX4_closeLines_8 : decode cX4_closeLines 8 = .ok (.iconst 0, 1) := by decide +kernel
theorem dX4_closeLines_9 : decode cX4_closeLines 9 = .ok (.invokestatic 51, 3) := by decide +kernel
theorem dX4_closeLines_12 : decode cX4_closeLines 12 = .ok (.iconst 0, 1) := by decide +kernel
theorem dX4_closeLines_13 : decode cX4_closeLines 13 = .ok (.istore 4, 2) := by decide +kernel
theorem dX4_closeLines_15 : decode cX4_closeLines 15 = .ok (.iload 4, 2) := by decide +kernel
theorem dX4_closeLines_17 : decode cX4_closeLines 17 = .ok (.bipush 36, 2) := by decide +kernel
theorem dX4_closeLines_19 : decode cX4_closeLines 19 = .ok (.if_icmp .ge 27, 3) := by decide +kernel
theorem dX4_closeLines_22 : decode cX4_closeLines 22 = .ok (.aload_n 0, 1) := by decide +kernel
theorem dX4_closeLines_23 : decode cX4_closeLines 23 = .ok (.iload 4, 2) := by decide +kernel
theorem dX4_closeLines_25 : decode cX4_closeLines 25 = .ok (.iload_n 1, 1) := by decide +kernel
theorem dX4_closeLines_26 : decode cX4_closeLines 26 = .ok (.iload 4, 2) := by decide +kernel
theorem dX4_closeLines_28 : decode cX4_closeLines 28 = .ok (.iload_n 1, 1) := by decide +kernel
theorem dX4_closeLines_29 : decode cX4_closeLines 29 = .ok (.invokestatic 41, 3) := by decide +kernel
theorem dX4_closeLines_32 : decode cX4_closeLines 32 = .ok (.iload_n 2, 1) := by decide +kernel
theorem dX4_closeLines_33 : decode cX4_closeLines 33 = .ok (.iload_n 3, 1) := by decide +kernel
theorem dX4_closeLines_34 : decode cX4_closeLines 34 = .ok (.invokestatic 65, 3) := by decide +kernel
theorem dX4_closeLines_37 : decode cX4_closeLines 37 = .ok (.invokevirtual 57, 3) := by decide +kernel
theorem dX4_closeLines_40 : decode cX4_closeLines 40 = .ok (.iinc 4 1, 3) := by decide +kernel
theorem dX4_closeLines_43 : decode cX4_closeLines 43 = .ok (.goto (-28), 3) := by decide +kernel
theorem dX4_closeLines_46 : decode cX4_closeLines 46 = .ok (.iconst 0, 1) := by decide +kernel
theorem dX4_closeLines_47 : decode cX4_closeLines 47 = .ok (.istore 4, 2) := by decide +kernel
theorem dX4_closeLines_49 : decode cX4_closeLines 49 = .ok (.iload 4, 2) := by decide +kernel
theorem dX4_closeLines_51 : decode cX4_closeLines 51 = .ok (.sipush 144, 3) := by decide +kernel
theorem dX4_closeLines_54 : decode cX4_closeLines 54 = .ok (.if_icmp .ge 29, 3) := by decide +kernel
theorem dX4_closeLines_57 : decode cX4_closeLines 57 = .ok (.aload_n 0, 1) := by decide +kernel
theorem dX4_closeLines_58 : decode cX4_closeLines 58 = .ok (.getfield 9, 3) := by decide +kernel
theorem dX4_closeLines_61 : decode cX4_closeLines 61 = .ok (.iload 4, 2) := by decide +kernel
theorem dX4_closeLines_63 : decode cX4_closeLines 63 = .ok (.aload_n 0, 1) := by decide +kernel
theorem dX4_closeLines_64 : decode cX4_closeLines 64 = .ok (.getfield 9, 3) := by decide +kernel
theorem dX4_closeLines_67 : decode cX4_closeLines 67 = .ok (.iload 4, 2) := by decide +kernel
theorem dX4_closeLines_69 : decode cX4_closeLines 69 = .ok (.iaload, 1) := by decide +kernel
theorem dX4_closeLines_70 : decode cX4_closeLines 70 = .ok (.iload_n 1, 1) := by decide +kernel
theorem dX4_closeLines_71 : decode cX4_closeLines 71 = .ok (.iload_n 2, 1) := by decide +kernel
theorem dX4_closeLines_72 : decode cX4_closeLines 72 = .ok (.iload_n 3, 1) := by decide +kernel
theorem dX4_closeLines_73 : decode cX4_closeLines 73 = .ok (.invokestatic 68, 3) := by decide +kernel
theorem dX4_closeLines_76 : decode cX4_closeLines 76 = .ok (.iastore, 1) := by decide +kernel
theorem dX4_closeLines_77 : decode cX4_closeLines 77 = .ok (.iinc 4 1, 3) := by decide +kernel
theorem dX4_closeLines_80 : decode cX4_closeLines 80 = .ok (.goto (-31), 3) := by decide +kernel
theorem dX4_closeLines_83 : decode cX4_closeLines 83 = .ok (.return_, 1) := by decide +kernel
theorem dX4_moveArea_0 : decode cX4_moveArea 0 = .ok (.aload_n 0, 1) := by decide +kernel
theorem dX4_moveArea_1 : decode cX4_moveArea 1 = .ok (.invokevirtual 48, 3) := by decide +kernel
theorem dX4_moveArea_4 : decode cX4_moveArea 4 = .ok (.iconst 0, 1) := by decide +kernel
theorem dX4_moveArea_5 : decode cX4_moveArea 5 = .ok (.istore_n 3, 1) := by decide +kernel
theorem dX4_moveArea_6 : decode cX4_moveArea 6 = .ok (.iload_n 3, 1) := by decide +kernel
theorem dX4_moveArea_7 : decode cX4_moveArea 7 = .ok (.aload_n 1, 1) := by decide +kernel
theorem dX4_moveArea_8 : decode cX4_moveArea 8 = .ok (.invokevirtual 71, 3) := by decide +kernel
theorem dX4_moveArea_11 : decode cX4_moveArea 11 = .ok (.if_icmp .ge 18, 3) := by decide +kernel
theorem dX4_moveArea_14 : decode cX4_moveArea 14 = .ok (.aload_n 0, 1) := by decide +kernel
theorem dX4_moveArea_15 : decode cX4_moveArea 15 = .ok (.aload_n 1, 1) := by decide +kernel
theorem dX4_moveArea_16 : decode cX4_moveArea 16 = .ok (.iload_n 3, 1) := by decide +kernel
theorem dX4_moveArea_17 : decode cX4_moveArea 17 = .ok (.invokevirtual 77, 3) := by decide +kernel
theorem dX4_moveArea_20 : decode cX4_moveArea 20 = .ok (.invokevirtual 81, 3) := by decide +kernel
theorem dX4_moveArea_23 : decode cX4_moveArea 23 = .ok (.iinc 3 1, 3) := by decide +kernel
theorem dX4_moveArea_26 : decode cX4_moveArea 26 = .ok (.goto (-20), 3) := by decide +kernel
theorem dX4_moveArea_29 : decode cX4_moveArea 29 = .ok (.iconst 0, 1) := by decide +kernel
theorem dX4_moveArea_30 : decode cX4_moveArea 30 = .ok (.istore_n 3, 1) := by decide +kernel
theorem dX4_moveArea_31 : decode cX4_moveArea 31 = .ok (.iload_n 3, 1) := by decide +kernel
theorem dX4_moveArea_32 : decode cX4_moveArea 32 = .ok (.aload_n 1, 1) := by decide +kernel
theorem dX4_moveArea_33 : decode cX4_moveArea 33 = .ok (.invokevirtual 71, 3) := by decide +kernel
theorem dX4_moveArea_36 : decode cX4_moveArea 36 = .ok (.if_icmp .ge 23, 3) := by decide +kernel
theorem dX4_moveArea_39 : decode cX4_moveArea 39 = .ok (.aload_n 0, 1) := by decide +kernel
theorem dX4_moveArea_40 : decode cX4_moveArea 40 = .ok (.aload_n 1, 1) := by decide +kernel
theorem dX4_moveArea_41 : decode cX4_moveArea 41 = .ok (.iload_n 3, 1) := by decide +kernel
theorem dX4_moveArea_42 : decode cX4_moveArea 42 = .ok (.invokevirtual 77, 3) := by decide +kernel
theorem dX4_moveArea_45 : decode cX4_moveArea 45 = .ok (.aload_n 2, 1) := by decide +kernel
theorem dX4_moveArea_46 : decode cX4_moveArea 46 = .ok (.iload_n 3, 1) := by decide +kernel
theorem dX4_moveArea_47 : decode cX4_moveArea 47 = .ok (.invokevirtual 77, 3) := by decide +kernel
theorem dX4_moveArea_50 : decode cX4_moveArea 50 = .ok (.invokevirtual 85, 3) := by decide +kernel
theorem dX4_moveArea_53 : decode cX4_moveArea 53 = .ok (.iinc 3 1, 3) := by decide +kernel
theorem dX4_moveArea_56 : decode cX4_moveArea 56 = .ok (.goto (-25), 3) := by decide +kernel
theorem dX4_moveArea_59 : decode cX4_moveArea 59 = .ok (.iconst 0, 1) := by decide +kernel
theorem dX4_moveArea_60 : decode cX4_moveArea 60 = .ok (.istore_n 3, 1) := by decide +kernel
theorem dX4_moveArea_61 : decode cX4_moveArea 61 = .ok (.iconst 0, 1) := by decide +kernel
theorem dX4_moveArea_62 : decode cX4_moveArea 62 = .ok (.istore 4, 2) := by decide +kernel
theorem dX4_moveArea_64 : decode cX4_moveArea 64 = .ok (.iload 4, 2) := by decide +kernel
theorem dX4_moveArea_66 : decode cX4_moveArea 66 = .ok (.sipush 144, 3) := by decide +kernel
theorem dX4_moveArea_69 : decode cX4_moveArea 69 = .ok (.if_icmp .ge 53, 3) := by decide +kernel
theorem dX4_moveArea_72 : decode cX4_moveArea 72 = .ok (.aload_n 0, 1) := by decide +kernel
theorem dX4_moveArea_73 : decode cX4_moveArea 73 = .ok (.getfield 9, 3) := by decide +kernel
theorem dX4_moveArea_76 : decode cX4_moveArea 76 = .ok (.iload 4, 2) := by decide +kernel
theorem dX4_moveArea_78 : decode cX4_moveArea 78 = .ok (.iaload, 1) := by decide +kernel
theorem dX4_moveArea_79 : decode cX4_moveArea 79 = .ok (.aload_n 1, 1) := by decide +kernel
theorem dX4_moveArea_80 : decode cX4_moveArea 80 = .ok (.aload_n 2, 1) := by decide +kernel
theorem dX4_moveArea_81 : decode cX4_moveArea 81 = .ok (.invokestatic 89, 3) := by decide +kernel
theorem dX4_moveArea_84 : decode cX4_moveArea 84 = .ok (.istore 5, 2) := by decide +kernel
theorem dX4_moveArea_86 : decode cX4_moveArea 86 = .ok (.iload 5, 2) := by decide +kernel
theorem dX4_moveArea_88 : decode cX4_moveArea 88 = .ok (.aload_n 0, 1) := by decide +kernel
theorem dX4_moveArea_89 : decode cX4_moveArea 89 = .ok (.getfield 9, 3) := by decide +kernel
theorem dX4_moveArea_92 : decode cX4_moveArea 92 = .ok (.iload 4, 2) := by decide +kernel
theorem dX4_moveArea_94 : decode cX4_moveArea 94 = .ok (.iaload, 1) := by decide +kernel
theorem dX4_moveArea_95 : decode cX4_moveArea 95 = .ok (.if_icmp .eq 12, 3) := by decide +kernel
theorem dX4_moveArea_98 : decode cX4_moveArea 98 = .ok (.iload 5, 2) := by decide +kernel
theorem dX4_moveArea_100 : decode cX4_moveArea 100 = .ok (.iconst 4, 1) := by decide +kernel
theorem dX4_moveArea_101 : decode cX4_moveArea 101 = .ok (.if_icmp .ne 6, 3) := by decide +kernel
theorem dX4_moveArea_104 : decode cX4_moveArea 104 = .ok (.iinc 3 1, 3) := by decide +kernel
theorem dX4_moveArea_107 : decode cX4_moveArea 107 = .ok (.aload_n 0, 1) := by decide +kernel
theorem dX4_moveArea_108 : decode cX4_moveArea 108 = .ok (.getfield 9, 3) := by decide +kernel
theorem dX4_moveArea_111 : decode cX4_moveArea 111 = .ok (.iload 4, 2) := by decide +kernel
theorem dX4_moveArea_113 : decode cX4_moveArea 113 = .ok (.iload 5, 2) := by decide +kernel
theorem dX4_moveArea_115 : decode cX4_moveArea 115 = .ok (.iastore, 1) := by decide +kernel
theorem dX4_moveArea_116 : decode cX4_moveArea 116 = .ok (.iinc 4 1, 3) := by decide +kernel
theorem dX4_moveArea_119 : decode cX4_moveArea 119 = .ok (.goto (-55), 3) := by decide +kernel
theorem dX4_moveArea_122 : decode cX4_moveArea 122 = .ok (.iload_n 3, 1) := by decide +kernel
theorem dX4_moveArea_123 : decode cX4_moveArea 123 = .ok (.ireturn, 1) := by decide +kernel
theorem dX4_copyArea_0 : decode cX4_copyArea 0 = .ok (.aload_n 0, 1) := by decide +kernel
theorem dX4_copyArea_1 : decode cX4_copyArea 1 = .ok (.invokevirtual 48, 3) := by decide +kernel
theorem dX4_copyArea_4 : decode cX4_copyArea 4 = .ok (.aload_n 2, 1) := by decide +kernel
theorem dX4_copyArea_5 : decode cX4_copyArea 5 = .ok (.getfield 93, 3) := by decide +kernel
theorem dX4_copyArea_8 : decode cX4_copyArea 8 = .ok (.aload_n 1, 1) := by decide +kernel
theorem dX4_copyArea_9 : decode cX4_copyArea 9 = .ok (.getfield 93, 3) := by decide +kernel
theorem dX4_copyArea_12 : decode cX4_copyArea 12 = .ok (.isub, 1) := by decide +kernel
theorem dX4_copyArea_13 : decode cX4_copyArea 13 = .ok (.istore_n 3, 1) := by decide +kernel
theorem dX4_copyArea_14 : decode cX4_copyArea 14 = .ok (.aload_n 2, 1) := by decide +kernel
theorem dX4_copyArea_15 : decode cX4_copyArea 15 = .ok (.getfield 97, 3) := by decide +kernel
theorem dX4_copyArea_18 : decode cX4_copyArea 18 = .ok (.aload_n 1, 1) := by decide +kernel
theorem dX4_copyArea_19 : decode cX4_copyArea 19 = .ok (.getfield 97, 3) := by decide +kernel
theorem dX4_copyArea_22 : decode cX4_copyArea 22 = .ok (.isub, 1) := by decide +kernel
theorem dX4_copyArea_23 : decode cX4_copyArea 23 = .ok (.istore 4, 2) := by decide +kernel
theorem dX4_copyArea_25 : decode cX4_copyArea 25 = .ok (.iconst 0, 1) := by decide +kernel
theorem dX4_copyArea_26 : decode cX4_copyArea 26 = .ok (.istore 5, 2) := by decide +kernel
theorem dX4_copyArea_28 : decode cX4_copyArea 28 = .ok (.iconst 0, 1) := by decide +kernel
theorem dX4_copyArea_29 : decode cX4_copyArea 29 = .ok (.istore 6, 2) := by decide +kernel
theorem dX4_copyArea_31 : decode cX4_copyArea 31 = .ok (.iload 6, 2) := by decide +kernel
theorem dX4_copyArea_33 : decode cX4_copyArea 33 = .ok (.aload_n 1, 1) := by decide +kernel
theorem dX4_copyArea_34 : decode cX4_copyArea 34 = .ok (.invokevirtual 71, 3) := by decide +kernel
theorem dX4_copyArea_37 : decode cX4_copyArea 37 = .ok (.if_icmp .ge 43, 3) := by decide +kernel
theorem dX4_copyArea_40 : decode cX4_copyArea 40 = .ok (.aload_n 0, 1) := by decide +kernel
theorem dX4_copyArea_41 : decode cX4_copyArea 41 = .ok (.aload_n 1, 1) := by decide +kernel
theorem dX4_copyArea_42 : decode cX4_copyArea 42 = .ok (.iload 6, 2) := by decide +kernel
theorem dX4_copyArea_44 : decode cX4_copyArea 44 = .ok (.invokevirtual 77, 3) := by decide +kernel
theorem dX4_copyArea_47 : decode cX4_copyArea 47 = .ok (.aload_n 2, 1) := by decide +kernel
theorem dX4_copyArea_48 : decode cX4_copyArea 48 = .ok (.iload 6, 2) := by decide +kernel
theorem dX4_copyArea_50 : decode cX4_copyArea 50 = .ok (.invokevirtual 77, 3) := by decide +kernel
theorem dX4_copyArea_53 : decode cX4_copyArea 53 = .ok (.invokevirtual 85, 3) := by decide +kernel
theorem dX4_copyArea_56 : decode cX4_copyArea 56 = .ok (.iload 5, 2) := by decide +kernel
theorem dX4_copyArea_58 : decode cX4_copyArea 58 = .ok (.aload_n 0, 1) := by decide +kernel
theorem dX4_copyArea_59 : decode cX4_copyArea 59 = .ok (.aload_n 2, 1) := by decide +kernel
theorem dX4_copyArea_60 : decode cX4_copyArea 60 = .ok (.iload 6, 2) := by decide +kernel
theorem dX4_copyArea_62 : decode cX4_copyArea 62 = .ok (.invokevirtual 77, 3) := by decide +kernel
theorem dX4_copyArea_65 : decode cX4_copyArea 65 = .ok (.iload_n 3, 1) := by decide +kernel
theorem dX4_copyArea_66 : decode cX4_copyArea 66 = .ok (.iload 4, 2) := by decide +kernel
theorem dX4_copyArea_68 : decode cX4_copyArea 68 = .ok (.invokevirtual 100, 3) := by decide +kernel
theorem dX4_copyArea_71 : decode cX4_copyArea 71 = .ok (.iadd, 1) := by decide +kernel
theorem dX4_copyArea_72 : decode cX4_copyArea 72 = .ok (.istore 5, 2) := by decide +kernel
theorem dX4_copyArea_74 : decode cX4_copyArea 74 = .ok (.iinc 6 1, 3) := by decide +kernel
theorem dX4_copyArea_77 : decode cX4_copyArea 77 = .ok (.goto (-46), 3) := by decide +kernel
theorem dX4_copyArea_80 : decode cX4_copyArea 80 = .ok (.iload 5, 2) := by decide +kernel
theorem dX4_copyArea_82 : decode cX4_copyArea 82 = .ok (.ireturn, 1) := by decide +kernel
theorem dX4_filledCells_0 : decode cX4_filledCells 0 = .ok (.iconst 0, 1) := by decide +kernel
theorem dX4_filledCells_1 : decode cX4_filledCells 1 = .ok (.istore_n 1, 1) := by decide +kernel
theorem dX4_filledCells_2 : decode cX4_filledCells 2 = .ok (.iconst 0, 1) := by decide +kernel
theorem dX4_filledCells_3 : decode cX4_filledCells 3 = .ok (.istore_n 2, 1) := by decide +kernel
theorem dX4_filledCells_4 : decode cX4_filledCells 4 = .ok (.iload_n 2, 1) := by decide +kernel
theorem dX4_filledCells_5 : decode cX4_filledCells 5 = .ok (.bipush 36, 2) := by decide +kernel
theorem dX4_filledCells_7 : decode cX4_filledCells 7 = .ok (.if_icmp .ge 20, 3) := by decide +kernel
theorem dX4_filledCells_10 : decode cX4_filledCells 10 = .ok (.aload_n 0, 1) := by decide +kernel
theorem dX4_filledCells_11 : decode cX4_filledCells 11 = .ok (.iload_n 2, 1) := by decide +kernel
theorem dX4_filledCells_12 : decode cX4_filledCells 12 = .ok (.invokevirtual 38, 3) := by decide +kernel
theorem dX4_filledCells_15 : decode cX4_filledCells 15 = .ok (.ifCond .ne 6, 3) := by decide +kernel
theorem dX4_filledCells_18 : decode cX4_filledCells 18 = .ok (.iinc 1 1, 3) := by decide +kernel
theorem dX4_filledCells_21 : decode cX4_filledCells 21 = .ok (.iinc 2 1, 3) := by decide +kernel
theorem dX4_filledCells_24 : decode cX4_filledCells 24 = .ok (.goto (-20), 3) := by decide +kernel
theorem dX4_filledCells_27 : decode cX4_filledCells 27 = .ok (.iload_n 1, 1) := by decide +kernel
theorem dX4_filledCells_28 : decode cX4_filledCells 28 = .ok (.ireturn, 1) := by decide +kernel
theorem dX4_allTerms_0 : decode cX4_allTerms 0 = .ok (.iconst 0, 1) := by decide +kernel
theorem dX4_allTerms_1 : decode cX4_allTerms 1 = .ok (.istore_n 1, 1) := by decide +kernel
theorem dX4_allTerms_2 : decode cX4_allTerms 2 = .ok (.iconst 0, 1) := by decide +kernel
theorem dX4_allTerms_3 : decode cX4_allTerms 3 = .ok (.istore_n 2, 1) := by decide +kernel
theorem dX4_allTerms_4 : decode cX4_allTerms 4 = .ok (.iload_n 2, 1) := by decide +kernel
theorem dX4_allTerms_5 : decode cX4_allTerms 5 = .ok (.sipush 144, 3) := by decide +kernel
theorem dX4_allTerms_8 : decode cX4_allTerms 8 = .ok (.if_icmp .ge 21, 3) := by decide +kernel
theorem dX4_allTerms_11 : decode cX4_allTerms 11 = .ok (.aload_n 0, 1) := by decide +kernel
theorem dX4_allTerms_12 : decode cX4_allTerms 12 = .ok (.getfield 9, 3) := by decide +kernel
theorem dX4_allTerms_15 : decode cX4_allTerms 15 = .ok (.iload_n 2, 1) := by decide +kernel
theorem dX4_allTerms_16 : decode cX4_allTerms 16 = .ok (.iaload, 1) := by decide +kernel
theorem dX4_allTerms_17 : decode cX4_allTerms 17 = .ok (.ifCond .eq 6, 3) := by decide +kernel
theorem dX4_allTerms_20 : decode cX4_allTerms 20 = .ok (.iinc 1 1, 3) := by decide +kernel
theorem dX4_allTerms_23 : decode cX4_allTerms 23 = .ok (.iinc 2 1, 3) := by decide +kernel
theorem dX4_allTerms_26 : decode cX4_allTerms 26 = .ok (.goto (-22), 3) := by decide +kernel
theorem dX4_allTerms_29 : decode cX4_allTerms 29 = .ok (.iload_n 1, 1) := by decide +kernel
theorem dX4_allTerms_30 : decode cX4_allTerms 30 = .ok (.ireturn, 1) := by decide +kernel
theorem dX4_brokenTerms_0 : decode cX4_brokenTerms 0 = .ok (.iconst 0, 1) := by decide +kernel
theorem dX4_brokenTerms_1 : decode cX4_brokenTerms 1 = .ok (.istore_n 1, 1) := by decide +kernel
theorem dX4_brokenTerms_2 : decode cX4_brokenTerms 2 = .ok (.iconst 0, 1) := by decide +kernel
theorem dX4_brokenTerms_3 : decode cX4_brokenTerms 3 = .ok (.istore_n 2, 1) := by decide +kernel
theorem dX4_brokenTerms_4 : decode cX4_brokenTerms 4 = .ok (.iload_n 2, 1) := by decide +kernel
theorem dX4_brokenTerms_5 : decode cX4_brokenTerms 5 = .ok (.sipush 144, 3) := by decide +kernel
theorem dX4_brokenTerms_8 : decode cX4_brokenTerms 8 = .ok (.if_icmp .ge 22, 3) := by decide +kernel
theorem dX4_brokenTerms_11 : decode cX4_brokenTerms 11 = .ok (.aload_n 0, 1) := by decide +kernel
theorem dX4_brokenTerms_12 : decode cX4_brokenTerms 12 = .ok (.getfield 9, 3) := by decide +kernel
theorem dX4_brokenTerms_15 : decode cX4_brokenTerms 15 = .ok (.iload_n 2, 1) := by decide +kernel
theorem dX4_brokenTerms_16 : decode cX4_brokenTerms 16 = .ok (.iaload, 1) := by decide +kernel
theorem dX4_brokenTerms_17 : decode cX4_brokenTerms 17 = .ok (.iconst 4, 1) := by decide +kernel
theorem dX4_brokenTerms_18 : decode cX4_brokenTerms 18 = .ok (.if_icmp .ne 6, 3) := by decide +kernel
theorem dX4_brokenTerms_21 : decode cX4_brokenTerms 21 = .ok (.iinc 1 1, 3) := by decide +kernel
theorem dX4_brokenTerms_24 : decode cX4_brokenTerms 24 = .ok (.iinc 2 1, 3) := by decide +kernel
theorem dX4_brokenTerms_27 : decode cX4_brokenTerms 27 = .ok (.goto (-23), 3) := by decide +kernel
theorem dX4_brokenTerms_30 : decode cX4_brokenTerms 30 = .ok (.iload_n 1, 1) := by decide +kernel
theorem dX4_brokenTerms_31 : decode cX4_brokenTerms 31 = .ok (.ireturn, 1) := by decide +kernel
theorem dX4_referencesTo_0 : decode cX4_referencesTo 0 = .ok (.iconst 0, 1) := by decide +kernel
theorem dX4_referencesTo_1 : decode cX4_referencesTo 1 = .ok (.istore_n 3, 1) := by decide +kernel
theorem dX4_referencesTo_2 : decode cX4_referencesTo 2 = .ok (.iconst 0, 1) := by decide +kernel
theorem dX4_referencesTo_3 : decode cX4_referencesTo 3 = .ok (.istore 4, 2) := by decide +kernel
theorem dX4_referencesTo_5 : decode cX4_referencesTo 5 = .ok (.iload 4, 2) := by decide +kernel
theorem dX4_referencesTo_7 : decode cX4_referencesTo 7 = .ok (.sipush 144, 3) := by decide +kernel
theorem dX4_referencesTo_10 : decode cX4_referencesTo 10 = .ok (.if_icmp .ge 67, 3) := by decide +kernel
theorem dX4_referencesTo_13 : decode cX4_referencesTo 13 = .ok (.aload_n 0, 1) := by decide +kernel
theorem dX4_referencesTo_14 : decode cX4_referencesTo 14 = .ok (.getfield 9, 3) := by decide +kernel
theorem dX4_referencesTo_17 : decode cX4_referencesTo 17 = .ok (.iload 4, 2) := by decide +kernel
theorem dX4_referencesTo_19 : decode cX4_referencesTo 19 = .ok (.iaload, 1) := by decide +kernel
theorem dX4_referencesTo_20 : decode cX4_referencesTo 20 = .ok (.istore 5, 2) := by decide +kernel
theorem dX4_referencesTo_22 : decode cX4_referencesTo 22 = .ok (.iload 5, 2) := by decide +kernel
theorem dX4_referencesTo_24 : decode cX4_referencesTo 24 = .ok (.invokestatic 103, 3) := by decide +kernel
theorem dX4_referencesTo_27 : decode cX4_referencesTo 27 = .ok (.ifCond .eq 44, 3) := by decide +kernel
theorem dX4_referencesTo_30 : decode cX4_referencesTo 30 = .ok (.iload_n 1, 1) := by decide +kernel
theorem dX4_referencesTo_31 : decode cX4_referencesTo 31 = .ok (.iload 5, 2) := by decide +kernel
theorem dX4_referencesTo_33 : decode cX4_referencesTo 33 = .ok (.iconst 0, 1) := by decide +kernel
theorem dX4_referencesTo_34 : decode cX4_referencesTo 34 = .ok (.invokestatic 106, 3) := by decide +kernel
theorem dX4_referencesTo_37 : decode cX4_referencesTo 37 = .ok (.iload 5, 2) := by decide +kernel
theorem dX4_referencesTo_39 : decode cX4_referencesTo 39 = .ok (.iconst 0, 1) := by decide +kernel
theorem dX4_referencesTo_40 : decode cX4_referencesTo 40 = .ok (.invokestatic 109, 3) := by decide +kernel
theorem dX4_referencesTo_43 : decode cX4_referencesTo 43 = .ok (.invokestatic 22, 3) := by decide +kernel
theorem dX4_referencesTo_46 : decode cX4_referencesTo 46 = .ok (.ifCond .eq 25, 3) := by decide +kernel
theorem dX4_referencesTo_49 : decode cX4_referencesTo 49 = .ok (.iload_n 2, 1) := by decide +kernel
theorem dX4_referencesTo_50 : decode cX4_referencesTo 50 = .ok (.iload 5, 2) := by decide +kernel
theorem dX4_referencesTo_52 : decode cX4_referencesTo 52 = .ok (.iconst 1, 1) := by decide +kernel
theorem dX4_referencesTo_53 : decode cX4_referencesTo 53 = .ok (.invokestatic 106, 3) := by decide +kernel
theorem dX4_referencesTo_56 : decode cX4_referencesTo 56 = .ok (.iload 5, 2) := by decide +kernel
theorem dX4_referencesTo_58 : decode cX4_referencesTo 58 = .ok (.iconst 1, 1) := by decide +kernel
theorem dX4_referencesTo_59 : decode cX4_referencesTo 59 = .ok (.invokestatic 109, 3) := by decide +kernel
theorem dX4_referencesTo_62 : decode cX4_referencesTo 62 = .ok (.invokestatic 22, 3) := by decide +kernel
theorem dX4_referencesTo_65 : decode cX4_referencesTo 65 = .ok (.ifCond .eq 6, 3) := by decide +kernel
theorem dX4_referencesTo_68 : decode cX4_referencesTo 68 = .ok (.iinc 3 1, 3) := by decide +kernel
theorem dX4_referencesTo_71 : decode cX4_referencesTo 71 = .ok (.iinc 4 1, 3) := by decide +kernel
theorem dX4_referencesTo_74 : decode cX4_referencesTo 74 = .ok (.goto (-69), 3) := by decide +kernel
theorem dX4_referencesTo_77 : decode cX4_referencesTo 77 = .ok (.iload_n 3, 1) := by decide +kernel
theorem dX4_referencesTo_78 : decode cX4_referencesTo 78 = .ok (.ireturn, 1) := by decide +kernel
theorem dX4_lookAhead_0 : decode cX4_lookAhead 0 = .ok (.aload_n 0, 1) := by decide +kernel
theorem dX4_lookAhead_1 : decode cX4_lookAhead 1 = .ok (.getfield 9, 3) := by decide +kernel
theorem dX4_lookAhead_4 : decode cX4_lookAhead 4 = .ok (.iconst 0, 1) := by decide +kernel
theorem dX4_lookAhead_5 : decode cX4_lookAhead 5 = .ok (.aload_n 0, 1) := by decide +kernel
theorem dX4_lookAhead_6 : decode cX4_lookAhead 6 = .ok (.getfield 15, 3) := by decide +kernel
theorem dX4_lookAhead_9 : decode cX4_lookAhead 9 = .ok (.iconst 0, 1) := by decide +kernel
theorem dX4_lookAhead_10 : decode cX4_lookAhead 10 = .ok (.sipush 144, 3) := by decide +kernel
theorem dX4_lookAhead_13 : decode cX4_lookAhead 13 = .ok (.invokestatic 32, 3) := by decide +kernel
theorem dX4_lookAhead_16 : decode cX4_lookAhead 16 = .ok (.return_, 1) := by decide +kernel
theorem dX4_takeTo_0 : decode cX4_takeTo 0 = .ok (.iload_n 1, 1) := by decide +kernel
theorem dX4_takeTo_1 : decode cX4_takeTo 1 = .ok (.invokestatic 18, 3) := by decide +kernel
theorem dX4_takeTo_4 : decode cX4_takeTo 4 = .ok (.ifCond .eq 30, 3) := by decide +kernel
theorem dX4_takeTo_7 : decode cX4_takeTo 7 = .ok (.iload_n 2, 1) := by decide +kernel
theorem dX4_takeTo_8 : decode cX4_takeTo 8 = .ok (.invokestatic 18, 3) := by decide +kernel
theorem dX4_takeTo_11 : decode cX4_takeTo 11 = .ok (.ifCond .eq 23, 3) := by decide +kernel
theorem dX4_takeTo_14 : decode cX4_takeTo 14 = .ok (.iload_n 1, 1) := by decide +kernel
theorem dX4_takeTo_15 : decode cX4_takeTo 15 = .ok (.iconst 4, 1) := by decide +kernel
theorem dX4_takeTo_16 : decode cX4_takeTo 16 = .ok (.imul, 1) := by decide +kernel
theorem dX4_takeTo_17 : decode cX4_takeTo 17 = .ok (.istore_n 3, 1) := by decide +kernel
theorem dX4_takeTo_18 : decode cX4_takeTo 18 = .ok (.aload_n 0, 1) := by decide +kernel
theorem dX4_takeTo_19 : decode cX4_takeTo 19 = .ok (.getfield 15, 3) := by decide +kernel
theorem dX4_takeTo_22 : decode cX4_takeTo 22 = .ok (.iload_n 3, 1) := by decide +kernel
theorem dX4_takeTo_23 : decode cX4_takeTo 23 = .ok (.aload_n 0, 1) := by decide +kernel
theorem dX4_takeTo_24 : decode cX4_takeTo 24 = .ok (.getfield 9, 3) := by decide +kernel
theorem dX4_takeTo_27 : decode cX4_takeTo 27 = .ok (.iload_n 2, 1) := by decide +kernel
theorem dX4_takeTo_28 : decode cX4_takeTo 28 = .ok (.iconst 4, 1) := by decide +kernel
theorem dX4_takeTo_29 : decode cX4_takeTo 29 = .ok (.imul, 1) := by decide +kernel
theorem dX4_takeTo_30 : decode cX4_takeTo 30 = .ok (.iconst 4, 1) := by decide +kernel
theorem dX4_takeTo_31 : decode cX4_takeTo 31 = .ok (.invokestatic 32, 3) := by decide +kernel
theorem dX4_takeTo_34 : decode cX4_takeTo 34 = .ok (.return_, 1) := by decide +kernel
theorem dX4_takeAlong_0 : decode cX4_takeAlong 0 = .ok (.iload_n 3, 1) := by decide +kernel
theorem dX4_takeAlong_1 : decode cX4_takeAlong 1 = .ok (.iconst (-1), 1) := by decide +kernel
theorem dX4_takeAlong_2 : decode cX4_takeAlong 2 = .ok (.if_icmp .eq 32, 3) := by decide +kernel
theorem dX4_takeAlong_5 : decode cX4_takeAlong 5 = .ok (.iload_n 3, 1) := by decide +kernel
theorem dX4_takeAlong_6 : decode cX4_takeAlong 6 = .ok (.iload_n 1, 1) := by decide +kernel
theorem dX4_takeAlong_7 : decode cX4_takeAlong 7 = .ok (.iload_n 2, 1) := by decide +kernel
theorem dX4_takeAlong_8 : decode cX4_takeAlong 8 = .ok (.invokestatic 41, 3) := by decide +kernel
theorem dX4_takeAlong_11 : decode cX4_takeAlong 11 = .ok (.isub, 1) := by decide +kernel
theorem dX4_takeAlong_12 : decode cX4_takeAlong 12 = .ok (.istore 4, 2) := by decide +kernel
theorem dX4_takeAlong_14 : decode cX4_takeAlong 14 = .ok (.aload_n 0, 1) := by decide +kernel
theorem dX4_takeAlong_15 : decode cX4_takeAlong 15 = .ok (.iload_n 1, 1) := by decide +kernel
theorem dX4_takeAlong_16 : decode cX4_takeAlong 16 = .ok (.iload_n 1, 1) := by decide +kernel
theorem dX4_takeAlong_17 : decode cX4_takeAlong 17 = .ok (.iload 4, 2) := by decide +kernel
theorem dX4_takeAlong_19 : decode cX4_takeAlong 19 = .ok (.iload_n 2, 1) := by decide +kernel
theorem dX4_takeAlong_20 : decode cX4_takeAlong 20 = .ok (.ifCond .ne 7, 3) := by decide +kernel
theorem dX4_takeAlong_23 : decode cX4_takeAlong 23 = .ok (.iconst 1, 1) := by decide +kernel
theorem dX4_takeAlong_24 : decode cX4_takeAlong 24 = .ok (.goto 5, 3) := by decide +kernel
theorem dX4_takeAlong_27 : decode cX4_takeAlong 27 = .ok (.bipush 6, 2) := by decide +kernel
theorem dX4_takeAlong_29 : decode cX4_takeAlong 29 = .ok (.imul, 1) := by decide +kernel
theorem dX4_takeAlong_30 : decode cX4_takeAlong 30 = .ok (.iadd, 1) := by decide +kernel
theorem dX4_takeAlong_31 : decode cX4_takeAlong 31 = .ok (.invokevirtual 85, 3) := by decide +kernel
theorem dX4_takeAlong_34 : decode cX4_takeAlong 34 = .ok (.return_, 1) := by decide +kernel
theorem dX4_spreadTerms_0 : decode cX4_spreadTerms 0 = .ok (.iconst 0, 1) := by decide +kernel
theorem dX4_spreadTerms_1 : decode cX4_spreadTerms 1 = .ok (.istore 4, 2) := by decide +kernel
theorem dX4_spreadTerms_3 : decode cX4_spreadTerms 3 = .ok (.iconst 0, 1) := by decide +kernel
theorem dX4_spreadTerms_4 : decode cX4_spreadTerms 4 = .ok (.istore 5, 2) := by decide +kernel
theorem dX4_spreadTerms_6 : decode cX4_spreadTerms 6 = .ok (.iload 5, 2) := by decide +kernel
theorem dX4_spreadTerms_8 : decode cX4_spreadTerms 8 = .ok (.iconst 4, 1) := by decide +kernel
theorem dX4_spreadTerms_9 : decode cX4_spreadTerms 9 = .ok (.if_icmp .ge 66, 3) := by decide +kernel
theorem dX4_spreadTerms_12 : decode cX4_spreadTerms 12 = .ok (.iload_n 1, 1) := by decide +kernel
theorem dX4_spreadTerms_13 : decode cX4_spreadTerms 13 = .ok (.invokestatic 18, 3) := by decide +kernel
theorem dX4_spreadTerms_16 : decode cX4_spreadTerms 16 = .ok (.ifCond .eq 59, 3) := by decide +kernel
theorem dX4_spreadTerms_19 : decode cX4_spreadTerms 19 = .ok (.iload_n 1, 1) := by decide +kernel
theorem dX4_spreadTerms_20 : decode cX4_spreadTerms 20 = .ok (.iconst 4, 1) := by decide +kernel
theorem dX4_spreadTerms_21 : decode cX4_spreadTerms 21 = .ok (.imul, 1) := by decide +kernel
theorem dX4_spreadTerms_22 : decode cX4_spreadTerms 22 = .ok (.iload 5, 2) := by decide +kernel
theorem dX4_spreadTerms_24 : decode cX4_spreadTerms 24 = .ok (.iadd, 1) := by decide +kernel
theorem dX4_spreadTerms_25 : decode cX4_spreadTerms 25 = .ok (.istore 6, 2) := by decide +kernel
theorem dX4_spreadTerms_27 : decode cX4_spreadTerms 27 = .ok (.aload_n 0, 1) := by decide +kernel
theorem dX4_spreadTerms_28 : decode cX4_spreadTerms 28 = .ok (.getfield 9, 3) := by decide +kernel
theorem dX4_spreadTerms_31 : decode cX4_spreadTerms 31 = .ok (.iload 6, 2) := by decide +kernel
theorem dX4_spreadTerms_33 : decode cX4_spreadTerms 33 = .ok (.iaload, 1) := by decide +kernel
theorem dX4_spreadTerms_34 : decode cX4_spreadTerms 34 = .ok (.istore 7, 2) := by decide +kernel
theorem dX4_spreadTerms_36 : decode cX4_spreadTerms 36 = .ok (.aload_n 0, 1) := by decide +kernel
theorem dX4_spreadTerms_37 : decode cX4_spreadTerms 37 = .ok (.getfield 9, 3) := by decide +kernel
theorem dX4_spreadTerms_40 : decode cX4_spreadTerms 40 = .ok (.iload 6, 2) := by decide +kernel
theorem dX4_spreadTerms_42 : decode cX4_spreadTerms 42 = .ok (.iload 7, 2) := by decide +kernel
theorem dX4_spreadTerms_44 : decode cX4_spreadTerms 44 = .ok (.iload_n 2, 1) := by decide +kernel
theorem dX4_spreadTerms_45 : decode cX4_spreadTerms 45 = .ok (.iload_n 3, 1) := by decide +kernel
theorem dX4_spreadTerms_46 : decode cX4_spreadTerms 46 = .ok (.iload 7, 2) := by decide +kernel
theorem dX4_spreadTerms_48 : decode cX4_spreadTerms 48 = .ok (.invokestatic 112, 3) := by decide +kernel
theorem dX4_spreadTerms_51 : decode cX4_spreadTerms 51 = .ok (.invokestatic 115, 3) := by decide +kernel
theorem dX4_spreadTerms_54 : decode cX4_spreadTerms 54 = .ok (.iastore, 1) := by decide +kernel
theorem dX4_spreadTerms_55 : decode cX4_spreadTerms 55 = .ok (.aload_n 0, 1) := by decide +kernel
theorem dX4_spreadTerms_56 : decode cX4_spreadTerms 56 = .ok (.getfield 9, 3) := by decide +kernel
theorem dX4_spreadTerms_59 : decode cX4_spreadTerms 59 = .ok (.iload 6, 2) := by decide +kernel
theorem dX4_spreadTerms_61 : decode cX4_spreadTerms 61 = .ok (.iaload, 1) := by decide +kernel
theorem dX4_spreadTerms_62 : decode cX4_spreadTerms 62 = .ok (.iconst 4, 1) := by decide +kernel
theorem dX4_spreadTerms_63 : decode cX4_spreadTerms 63 = .ok (.if_icmp .ne 6, 3) := by decide +kernel
theorem dX4_spreadTerms_66 : decode cX4_spreadTerms 66 = .ok (.iinc 4 1, 3) := by decide +kernel
theorem dX4_spreadTerms_69 : decode cX4_spreadTerms 69 = .ok (.iinc 5 1, 3) := by decide +kernel
theorem dX4_spreadTerms_72 : decode cX4_spreadTerms 72 = .ok (.goto (-66), 3) := by decide +kernel
theorem dX4_spreadTerms_75 : decode cX4_spreadTerms 75 = .ok (.iload 4, 2) := by decide +kernel
theorem dX4_spreadTerms_77 : decode cX4_spreadTerms 77 = .ok (.ireturn, 1) := by decide +kernel
theorem dX4_whenMoved_0 : decode cX4_whenMoved 0 = .ok (.iload_n 0, 1) := by decide +kernel
theorem dX4_whenMoved_1 : decode cX4_whenMoved 1 = .ok (.invokestatic 103, 3) := by decide +kernel
theorem dX4_whenMoved_4 : decode cX4_whenMoved 4 = .ok (.ifCond .ne 5, 3) := by decide +kernel
theorem dX4_whenMoved_7 : decode cX4_whenMoved 7 = .ok (.iload_n 0, 1) := by decide +kernel
theorem dX4_whenMoved_8 : decode cX4_whenMoved 8 = .ok (.ireturn, 1) := by decide +kernel
theorem dX4_whenMoved_9 : decode cX4_whenMoved 9 = .ok (.aload_n 1, 1) := by decide +kernel
theorem dX4_whenMoved_10 : decode cX4_whenMoved 10 = .ok (.iload_n 0, 1) := by decide +kernel
theorem dX4_whenMoved_11 : decode cX4_whenMoved 11 = .ok (.invokevirtual 118, 3) := by decide +kernel
theorem dX4_whenMoved_14 : decode cX4_whenMoved 14 = .ok (.ifCond .eq 29, 3) := by decide +kernel
theorem dX4_whenMoved_17 : decode cX4_whenMoved 17 = .ok (.aload_n 2, 1) := by decide +kernel
theorem dX4_whenMoved_18 : decode cX4_whenMoved 18 = .ok (.getfield 93, 3) := by decide +kernel
theorem dX4_whenMoved_21 : decode cX4_whenMoved 21 = .ok (.aload_n 1, 1) := by decide +kernel
theorem dX4_whenMoved_22 : decode cX4_whenMoved 22 = .ok (.getfield 93, 3) := by decide +kernel
theorem dX4_whenMoved_25 : decode cX4_whenMoved 25 = .ok (.isub, 1) := by decide +kernel
theorem dX4_whenMoved_26 : decode cX4_whenMoved 26 = .ok (.istore_n 3, 1) := by decide +kernel
theorem dX4_whenMoved_27 : decode cX4_whenMoved 27 = .ok (.iload_n 0, 1) := by decide +kernel
theorem dX4_whenMoved_28 : decode cX4_whenMoved 28 = .ok (.iload_n 3, 1) := by decide +kernel
theorem dX4_whenMoved_29 : decode cX4_whenMoved 29 = .ok (.aload_n 2, 1) := by decide +kernel
theorem dX4_whenMoved_30 : decode cX4_whenMoved 30 = .ok (.getfield 97, 3) := by decide +kernel
theorem dX4_whenMoved_33 : decode cX4_whenMoved 33 = .ok (.aload_n 1, 1) := by decide +kernel
theorem dX4_whenMoved_34 : decode cX4_whenMoved 34 = .ok (.getfield 97, 3) := by decide +kernel
theorem dX4_whenMoved_37 : decode cX4_whenMoved 37 = .ok (.isub, 1) := by decide +kernel
theorem dX4_whenMoved_38 : decode cX4_whenMoved 38 = .ok (.iconst 0, 1) := by decide +kernel
theorem dX4_whenMoved_39 : decode cX4_whenMoved 39 = .ok (.invokestatic 115, 3) := by decide +kernel
theorem dX4_whenMoved_42 : decode cX4_whenMoved 42 = .ok (.ireturn, 1) := by decide +kernel
theorem dX4_whenMoved_43 : decode cX4_whenMoved 43 = .ok (.aload_n 2, 1) := by decide +kernel
theorem dX4_whenMoved_44 : decode cX4_whenMoved 44 = .ok (.iload_n 0, 1) := by decide +kernel
theorem dX4_whenMoved_45 : decode cX4_whenMoved 45 = .ok (.invokevirtual 118, 3) := by decide +kernel
theorem dX4_whenMoved_48 : decode cX4_whenMoved 48 = .ok (.ifCond .eq 7, 3) := by decide +kernel
theorem dX4_whenMoved_51 : decode cX4_whenMoved 51 = .ok (.iconst 4, 1) := by decide +kernel
theorem dX4_whenMoved_52 : decode cX4_whenMoved 52 = .ok (.goto 4, 3) := by decide +kernel
theorem dX4_whenMoved_55 : decode cX4_whenMoved 55 = .ok (.iload_n 0, 1) := by decide +kernel
theorem dX4_whenMoved_56 : decode cX4_whenMoved 56 = .ok (.ireturn, 1) := by decide +kernel
theorem dX4_lineOf_0 : decode cX4_lineOf 0 = .ok (.iload_n 1, 1) := by decide +kernel
theorem dX4_lineOf_1 : decode cX4_lineOf 1 = .ok (.ifCond .ne 10, 3) := by decide +kernel
theorem dX4_lineOf_4 : decode cX4_lineOf 4 = .ok (.iload_n 0, 1) := by decide +kernel
theorem dX4_lineOf_5 : decode cX4_lineOf 5 = .ok (.invokestatic 121, 3) := by decide +kernel
theorem dX4_lineOf_8 : decode cX4_lineOf 8 = .ok (.goto 7, 3) := by decide +kernel
theorem dX4_lineOf_11 : decode cX4_lineOf 11 = .ok (.iload_n 0, 1) := by decide +kernel
theorem dX4_lineOf_12 : decode cX4_lineOf 12 = .ok (.invokestatic 124, 3) := by decide +kernel
theorem dX4_lineOf_15 : decode cX4_lineOf 15 = .ok (.ireturn, 1) := by decide +kernel
theorem dX4_lineAfterComing_0 : decode cX4_lineAfterComing 0 = .ok (.iload_n 0, 1) := by decide +kernel
theorem dX4_lineAfterComing_1 : decode cX4_lineAfterComing 1 = .ok (.iload_n 1, 1) := by decide +kernel
theorem dX4_lineAfterComing_2 : decode cX4_lineAfterComing 2 = .ok (.if_icmp .ge 5, 3) := by decide +kernel
theorem dX4_lineAfterComing_5 : decode cX4_lineAfterComing 5 = .ok (.iload_n 0, 1) := by decide +kernel
theorem dX4_lineAfterComing_6 : decode cX4_lineAfterComing 6 = .ok (.ireturn, 1) := by decide +kernel
theorem dX4_lineAfterComing_7 : decode cX4_lineAfterComing 7 = .ok (.iload_n 0, 1) := by decide +kernel
theorem dX4_lineAfterComing_8 : decode cX4_lineAfterComing 8 = .ok (.iload_n 2, 1) := by decide +kernel
theorem dX4_lineAfterComing_9 : decode cX4_lineAfterComing 9 = .ok (.iadd, 1) := by decide +kernel
theorem dX4_lineAfterComing_10 : decode cX4_lineAfterComing 10 = .ok (.bipush 6, 2) := by decide +kernel
theorem dX4_lineAfterComing_12 : decode cX4_lineAfterComing 12 = .ok (.if_icmp .ge 9, 3) := by decide +kernel
theorem dX4_lineAfterComing_15 : decode cX4_lineAfterComing 15 = .ok (.iload_n 0, 1) := by decide +kernel
theorem dX4_lineAfterComing_16 : decode cX4_lineAfterComing 16 = .ok (.iload_n 2, 1) := by decide +kernel
theorem dX4_lineAfterComing_17 : decode cX4_lineAfterComing 17 = .ok (.iadd, 1) := by decide +kernel
theorem dX4_lineAfterComing_18 : decode cX4_lineAfterComing 18 = .ok (.goto 4, 3) := by decide +kernel
theorem dX4_lineAfterComing_21 : decode cX4_lineAfterComing 21 = .ok (.iconst (-1), 1) := by decide +kernel
theorem dX4_lineAfterComing_22 : decode cX4_lineAfterComing 22 = .ok (.ireturn, 1) := by decide +kernel
theorem dX4_lineAfterGoing_0 : decode cX4_lineAfterGoing 0 = .ok (.iload_n 0, 1) := by decide +kernel
theorem dX4_lineAfterGoing_1 : decode cX4_lineAfterGoing 1 = .ok (.iload_n 1, 1) := by decide +kernel
theorem dX4_lineAfterGoing_2 : decode cX4_lineAfterGoing 2 = .ok (.if_icmp .ge 5, 3) := by decide +kernel
theorem dX4_lineAfterGoing_5 : decode cX4_lineAfterGoing 5 = .ok (.iload_n 0, 1) := by decide +kernel
theorem dX4_lineAfterGoing_6 : decode cX4_lineAfterGoing 6 = .ok (.ireturn, 1) := by decide +kernel
theorem dX4_lineAfterGoing_7 : decode cX4_lineAfterGoing 7 = .ok (.iload_n 0, 1) := by decide +kernel
theorem dX4_lineAfterGoing_8 : decode cX4_lineAfterGoing 8 = .ok (.iload_n 1, 1) := by decide +kernel
theorem dX4_lineAfterGoing_9 : decode cX4_lineAfterGoing 9 = .ok (.iload_n 2, 1) := by decide +kernel
theorem dX4_lineAfterGoing_10 : decode cX4_lineAfterGoing 10 = .ok (.iadd, 1) := by decide +kernel
theorem dX4_lineAfterGoing_11 : decode cX4_lineAfterGoing 11 = .ok (.if_icmp .lt 9, 3) := by decide +kernel
theorem dX4_lineAfterGoing_14 : decode cX4_lineAfterGoing 14 = .ok (.iload_n 0, 1) := by decide +kernel
theorem dX4_lineAfterGoing_15 : decode cX4_lineAfterGoing 15 = .ok (.iload_n 2, 1) := by decide +kernel
theorem dX4_lineAfterGoing_16 : decode cX4_lineAfterGoing 16 = .ok (.isub, 1) := by decide +kernel
theorem dX4_lineAfterGoing_17 : decode cX4_lineAfterGoing 17 = .ok (.goto 4, 3) := by decide +kernel
theorem dX4_lineAfterGoing_20 : decode cX4_lineAfterGoing 20 = .ok (.iconst (-1), 1) := by decide +kernel
theorem dX4_lineAfterGoing_21 : decode cX4_lineAfterGoing 21 = .ok (.ireturn, 1) := by decide +kernel
theorem dX5_ofNumber_0 : decode cX5_ofNumber 0 = .ok (.iconst 1, 1) := by decide +kernel
theorem dX5_ofNumber_1 : decode cX5_ofNumber 1 = .ok (.iload_n 0, 1) := by decide +kernel
theorem dX5_ofNumber_2 : decode cX5_ofNumber 2 = .ok (.bipush 7, 2) := by decide +kernel
theorem dX5_ofNumber_4 : decode cX5_ofNumber 4 = .ok (.ishl, 1) := by decide +kernel
theorem dX5_ofNumber_5 : decode cX5_ofNumber 5 = .ok (.ior, 1) := by decide +kernel
theorem dX5_ofNumber_6 : decode cX5_ofNumber 6 = .ok (.ireturn, 1) := by decide +kernel
theorem dX5_ofPlace_0 : decode cX5_ofPlace 0 = .ok (.iconst 2, 1) := by decide +kernel
theorem dX5_ofPlace_1 : decode cX5_ofPlace 1 = .ok (.iload_n 2, 1) := by decide +kernel
theorem dX5_ofPlace_2 : decode cX5_ofPlace 2 = .ok (.iconst 3, 1) := by decide +kernel
theorem dX5_ofPlace_3 : decode cX5_ofPlace 3 = .ok (.ishl, 1) := by decide +kernel
theorem dX5_ofPlace_4 : decode cX5_ofPlace 4 = .ok (.ior, 1) := by decide +kernel
theorem dX5_ofPlace_5 : decode cX5_ofPlace 5 = .ok (.istore_n 3, 1) := by decide +kernel
theorem dX5_ofPlace_6 : decode cX5_ofPlace 6 = .ok (.iload_n 3, 1) := by decide +kernel
theorem dX5_ofPlace_7 : decode cX5_ofPlace 7 = .ok (.iconst 0, 1) := by decide +kernel
theorem dX5_ofPlace_8 : decode cX5_ofPlace 8 = .ok (.iload_n 0, 1) := by decide +kernel
theorem dX5_ofPlace_9 : decode cX5_ofPlace 9 = .ok (.invokestatic 11, 3) := by decide +kernel
theorem dX5_ofPlace_12 : decode cX5_ofPlace 12 = .ok (.iconst 1, 1) := by decide +kernel
theorem dX5_ofPlace_13 : decode cX5_ofPlace 13 = .ok (.iload_n 1, 1) := by decide +kernel
theorem dX5_ofPlace_14 : decode cX5_ofPlace 14 = .ok (.invokestatic 11, 3) := by decide +kernel
theorem dX5_ofPlace_17 : decode cX5_ofPlace 17 = .ok (.ireturn, 1) := by decide +kernel
theorem dX5_ofBlock_0 : decode cX5_ofBlock 0 = .ok (.iload_n 0, 1) := by decide +kernel
theorem dX5_ofBlock_1 : decode cX5_ofBlock 1 = .ok (.invokestatic 15, 3) := by decide +kernel
theorem dX5_ofBlock_4 : decode cX5_ofBlock 4 = .ok (.iload_n 1, 1) := by decide +kernel
theorem dX5_ofBlock_5 : decode cX5_ofBlock 5 = .ok (.invokestatic 15, 3) := by decide +kernel
theorem dX5_ofBlock_8 : decode cX5_ofBlock 8 = .ok (.iconst 2, 1) := by decide +kernel
theorem dX5_ofBlock_9 : decode cX5_ofBlock 9 = .ok (.ishl, 1) := by decide +kernel
theorem dX5_ofBlock_10 : decode cX5_ofBlock 10 = .ok (.ior, 1) := by decide +kernel
theorem dX5_ofBlock_11 : decode cX5_ofBlock 11 = .ok (.istore_n 2, 1) := by decide +kernel
theorem dX5_ofBlock_12 : decode cX5_ofBlock 12 = .ok (.iconst 3, 1) := by decide +kernel
theorem dX5_ofBlock_13 : decode cX5_ofBlock 13 = .ok (.iload_n 2, 1) := by decide +kernel
theorem dX5_ofBlock_14 : decode cX5_ofBlock 14 = .ok (.iconst 3, 1) := by decide +kernel
theorem dX5_ofBlock_15 : decode cX5_ofBlock 15 = .ok (.ishl, 1) := by decide +kernel
theorem dX5_ofBlock_16 : decode cX5_ofBlock 16 = .ok (.ior, 1) := by decide +kernel
theorem dX5_ofBlock_17 : decode cX5_ofBlock 17 = .ok (.istore_n 3, 1) := by decide +kernel
theorem dX5_ofBlock_18 : decode cX5_ofBlock 18 = .ok (.iconst 0, 1) := by decide +kernel
theorem dX5_ofBlock_19 : decode cX5_ofBlock 19 = .ok (.istore 4, 2) := by decide +kernel
theorem dX5_ofBlock_21 : decode cX5_ofBlock 21 = .ok (.iload 4, 2) := by decide +kernel
theorem dX5_ofBlock_23 : decode cX5_ofBlock 23 = .ok (.iconst 1, 1) := by decide +kernel
theorem dX5_ofBlock_24 : decode cX5_ofBlock 24 = .ok (.if_icmp .gt 37, 3) := by decide +kernel
theorem dX5_ofBlock_27 : decode cX5_ofBlock 27 = .ok (.iload_n 3, 1) := by decide +kernel
theorem dX5_ofBlock_28 : decode cX5_ofBlock 28 = .ok (.iload 4, 2) := by decide +kernel
theorem dX5_ofBlock_30 : decode cX5_ofBlock 30 = .ok (.iload_n 0, 1) := by decide +kernel
theorem dX5_ofBlock_31 : decode cX5_ofBlock 31 = .ok (.iload 4, 2) := by decide +kernel
theorem dX5_ofBlock_33 : decode cX5_ofBlock 33 = .ok (.invokestatic 19, 3) := by decide +kernel
theorem dX5_ofBlock_36 : decode cX5_ofBlock 36 = .ok (.invokestatic 11, 3) := by decide +kernel
theorem dX5_ofBlock_39 : decode cX5_ofBlock 39 = .ok (.istore_n 3, 1) := by decide +kernel
theorem dX5_ofBlock_40 : decode cX5_ofBlock 40 = .ok (.iload_n 3, 1) := by decide +kernel
theorem dX5_ofBlock_41 : decode cX5_ofBlock 41 = .ok (.iload 4, 2) := by decide +kernel
theorem dX5_ofBlock_43 : decode cX5_ofBlock 43 = .ok (.iconst 2, 1) := by decide +kernel
theorem dX5_ofBlock_44 : decode cX5_ofBlock 44 = .ok (.iadd, 1) := by decide +kernel
theorem dX5_ofBlock_45 : decode cX5_ofBlock 45 = .ok (.iload_n 1, 1) := by decide +kernel
theorem dX5_ofBlock_46 : decode cX5_ofBlock 46 = .ok (.iload 4, 2) := by decide +kernel
theorem dX5_ofBlock_48 : decode cX5_ofBlock 48 = .ok (.invokestatic 19, 3) := by decide +kernel
theorem dX5_ofBlock_51 : decode cX5_ofBlock 51 = .ok (.invokestatic 11, 3) := by decide +kernel
theorem dX5_ofBlock_54 : decode cX5_ofBlock 54 = .ok (.istore_n 3, 1) := by decide +kernel
theorem dX5_ofBlock_55 : decode cX5_ofBlock 55 = .ok (.iinc 4 1, 3) := by decide +kernel
theorem dX5_ofBlock_58 : decode cX5_ofBlock 58 = .ok (.goto (-37), 3) := by decide +kernel
theorem dX5_ofBlock_61 : decode cX5_ofBlock 61 = .ok (.iload_n 3, 1) := by decide +kernel
theorem dX5_ofBlock_62 : decode cX5_ofBlock 62 = .ok (.invokestatic 23, 3) := by decide +kernel
theorem dX5_ofBlock_65 : decode cX5_ofBlock 65 = .ok (.ireturn, 1) := by decide +kernel
theorem dX5_kind_0 : decode cX5_kind 0 = .ok (.iload_n 0, 1) := by decide +kernel
theorem dX5_kind_1 : decode cX5_kind 1 = .ok (.bipush 7, 2) := by decide +kernel
theorem dX5_kind_3 : decode cX5_kind 3 = .ok (.iand, 1) := by decide +kernel
theorem dX5_kind_4 : decode cX5_kind 4 = .ok (.ireturn, 1) := by decide +kernel
theorem dX5_fixed_0 : decode cX5_fixed 0 = .ok (.iload_n 0, 1) := by decide +kernel
theorem dX5_fixed_1 : decode cX5_fixed 1 = .ok (.iconst 3, 1) := by decide +kernel
theorem dX5_fixed_2 : decode cX5_fixed 2 = .ok (.ishr, 1) := by decide +kernel
theorem dX5_fixed_3 : decode cX5_fixed 3 = .ok (.bipush 15, 2) := by decide +kernel
theorem dX5_fixed_5 : decode cX5_fixed 5 = .ok (.iand, 1) := by decide +kernel
theorem dX5_fixed_6 : decode cX5_fixed 6 = .ok (.ireturn, 1) := by decide +kernel
theorem dX5_number_0 : decode cX5_number 0 = .ok (.iload_n 0, 1) := by decide +kernel
theorem dX5_number_1 : decode cX5_number 1 = .ok (.bipush 7, 2) := by decide +kernel
theorem dX5_number_3 : decode cX5_number 3 = .ok (.ishr, 1) := by decide +kernel
theorem dX5_number_4 : decode cX5_number 4 = .ok (.ireturn, 1) := by decide +kernel
theorem dX5_coordinate_0 : decode cX5_coordinate 0 = .ok (.iload_n 0, 1) := by decide +kernel
theorem dX5_coordinate_1 : decode cX5_coordinate 1 = .ok (.bipush 7, 2) := by decide +kernel
theorem dX5_coordinate_3 : decode cX5_coordinate 3 = .ok (.iconst 3, 1) := by decide +kernel
theorem dX5_coordinate_4 : decode cX5_coordinate 4 = .ok (.iload_n 1, 1) := by decide +kernel
theorem dX5_coordinate_5 : decode cX5_coordinate 5 = .ok (.imul, 1) := by decide +kernel
theorem dX5_coordinate_6 : decode cX5_coordinate 6 = .ok (.iadd, 1) := by decide +kernel
theorem dX5_coordinate_7 : decode cX5_coordinate 7 = .ok (.ishr, 1) := by decide +kernel
theorem dX5_coordinate_8 : decode cX5_coordinate 8 = .ok (.bipush 7, 2) := by decide +kernel
theorem dX5_coordinate_10 : decode cX5_coordinate 10 = .ok (.iand, 1) := by decide +kernel
theorem dX5_coordinate_11 : decode cX5_coordinate 11 = .ok (.ireturn, 1) := by decide +kernel
theorem dX5_refers_0 : decode cX5_refers 0 = .ok (.iload_n 0, 1) := by decide +kernel
theorem dX5_refers_1 : decode cX5_refers 1 = .ok (.invokestatic 26, 3) := by decide +kernel
theorem dX5_refers_4 : decode cX5_refers 4 = .ok (.iconst 2, 1) := by decide +kernel
theorem dX5_refers_5 : decode cX5_refers 5 = .ok (.if_icmp .eq 11, 3) := by decide +kernel
theorem dX5_refers_8 : decode cX5_refers 8 = .ok (.iload_n 0, 1) := by decide +kernel
theorem dX5_refers_9 : decode cX5_refers 9 = .ok (.invokestatic 26, 3) := by decide +kernel
theorem dX5_refers_12 : decode cX5_refers 12 = .ok (.iconst 3, 1) := by decide +kernel
theorem dX5_refers_13 : decode cX5_refers 13 = .ok (.if_icmp .ne 7, 3) := by decide +kernel
theorem dX5_refers_16 : decode cX5_refers 16 = .ok (.iconst 1, 1) := by decide +kernel
theorem dX5_refers_17 : decode cX5_refers 17 = .ok (.goto 4, 3) := by decide +kernel
theorem dX5_refers_20 : decode cX5_refers 20 = .ok (.iconst 0, 1) := by decide +kernel
theorem dX5_refers_21 : decode cX5_refers 21 = .ok (.ireturn, 1) := by decide +kernel
theorem dX5_least_0 : decode cX5_least 0 = .ok (.iload_n 0, 1) := by decide +kernel
theorem dX5_least_1 : decode cX5_least 1 = .ok (.iload_n 1, 1) := by decide +kernel
theorem dX5_least_2 : decode cX5_least 2 = .ok (.invokestatic 19, 3) := by decide +kernel
theorem dX5_least_5 : decode cX5_least 5 = .ok (.ireturn, 1) := by decide +kernel
theorem dX5_greatest_0 : decode cX5_greatest 0 = .ok (.iload_n 0, 1) := by decide +kernel
theorem dX5_greatest_1 : decode cX5_greatest 1 = .ok (.iload_n 0, 1) := by decide +kernel
theorem dX5_greatest_2 : decode cX5_greatest 2 = .ok (.invokestatic 26, 3) := by decide +kernel
theorem dX5_greatest_5 : decode cX5_greatest 5 = .ok (.iconst 3, 1) := by decide +kernel
theorem dX5_greatest_6 : decode cX5_greatest 6 = .ok (.if_icmp .ne 9, 3) := by decide +kernel
theorem dX5_greatest_9 : decode cX5_greatest 9 = .ok (.iload_n 1, 1) := by decide +kernel
theorem dX5_greatest_10 : decode cX5_greatest 10 = .ok (.iconst 2, 1) := by decide +kernel
theorem dX5_greatest_11 : decode cX5_greatest 11 = .ok (.iadd, 1) := by decide +kernel
theorem dX5_greatest_12 : decode cX5_greatest 12 = .ok (.goto 4, 3) := by decide +kernel
theorem dX5_greatest_15 : decode cX5_greatest 15 = .ok (.iload_n 1, 1) := by decide +kernel
theorem dX5_greatest_16 : decode cX5_greatest 16 = .ok (.invokestatic 19, 3) := by decide +kernel
theorem dX5_greatest_19 : decode cX5_greatest 19 = .ok (.ireturn, 1) := by decide +kernel
theorem dX5_whenLinesCome_0 : decode cX5_whenLinesCome 0 = .ok (.iload_n 0, 1) := by decide +kernel
theorem dX5_whenLinesCome_1 : decode cX5_whenLinesCome 1 = .ok (.invokestatic 29, 3) := by decide +kernel
theorem dX5_whenLinesCome_4 : decode cX5_whenLinesCome 4 = .ok (.ifCond .eq 12, 3) := by decide +kernel
theorem dX5_whenLinesCome_7 : decode cX5_whenLinesCome 7 = .ok (.iload_n 0, 1) := by decide +kernel
theorem dX5_whenLinesCome_8 : decode cX5_whenLinesCome 8 = .ok (.iload_n 1, 1) := by decide +kernel
theorem dX5_whenLinesCome_9 : decode cX5_whenLinesCome 9 = .ok (.invokestatic 33, 3) := by decide +kernel
theorem dX5_whenLinesCome_12 : decode cX5_whenLinesCome 12 = .ok (.iload_n 2, 1) := by decide +kernel
theorem dX5_whenLinesCome_13 : decode cX5_whenLinesCome 13 = .ok (.if_icmp .ge 5, 3) := by decide +kernel
theorem dX5_whenLinesCome_16 : decode cX5_whenLinesCome 16 = .ok (.iload_n 0, 1) := by decide +kernel
theorem dX5_whenLinesCome_17 : decode cX5_whenLinesCome 17 = .ok (.ireturn, 1) := by decide +kernel
theorem dX5_whenLinesCome_18 : decode cX5_whenLinesCome 18 = .ok (.iload_n 0, 1) := by decide +kernel
theorem dX5_whenLinesCome_19 : decode cX5_whenLinesCome 19 = .ok (.iload_n 1, 1) := by decide +kernel
theorem dX5_whenLinesCome_20 : decode cX5_whenLinesCome 20 = .ok (.invokestatic 36, 3) := by decide +kernel
theorem dX5_whenLinesCome_23 : decode cX5_whenLinesCome 23 = .ok (.istore 4, 2) := by decide +kernel
theorem dX5_whenLinesCome_25 : decode cX5_whenLinesCome 25 = .ok (.iload 4, 2) := by decide +kernel
theorem dX5_whenLinesCome_27 : decode cX5_whenLinesCome 27 = .ok (.iload_n 2, 1) := by decide +kernel
theorem dX5_whenLinesCome_28 : decode cX5_whenLinesCome 28 = .ok (.if_icmp .ge 8, 3) := by decide +kernel
theorem dX5_whenLinesCome_31 : decode cX5_whenLinesCome 31 = .ok (.iload 4, 2) := by decide +kernel
theorem dX5_whenLinesCome_33 : decode cX5_whenLinesCome 33 = .ok (.goto 7, 3) := by decide +kernel
theorem dX5_whenLinesCome_36 : decode cX5_whenLinesCome 36 = .ok (.iload 4, 2) := by decide +kernel
theorem dX5_whenLinesCome_38 : decode cX5_whenLinesCome 38 = .ok (.iload_n 3, 1) := by decide +kernel
theorem dX5_whenLinesCome_39 : decode cX5_whenLinesCome 39 = .ok (.iadd, 1) := by decide +kernel
theorem dX5_whenLinesCome_40 : decode cX5_whenLinesCome 40 = .ok (.istore 5, 2) := by decide +kernel
theorem dX5_whenLinesCome_42 : decode cX5_whenLinesCome 42 = .ok (.iload 5, 2) := by decide +kernel
theorem dX5_whenLinesCome_44 : decode cX5_whenLinesCome 44 = .ok (.bipush 6, 2) := by decide +kernel
theorem dX5_whenLinesCome_46 : decode cX5_whenLinesCome 46 = .ok (.if_icmp .lt 5, 3) := by decide +kernel
theorem dX5_whenLinesCome_49 : decode cX5_whenLinesCome 49 = .ok (.iconst 4, 1) := by decide +kernel
theorem dX5_whenLinesCome_50 : decode cX5_whenLinesCome 50 = .ok (.ireturn, 1) := by decide +kernel
theorem dX5_whenLinesCome_51 : decode cX5_whenLinesCome 51 = .ok (.iload_n 0, 1) := by decide +kernel
theorem dX5_whenLinesCome_52 : decode cX5_whenLinesCome 52 = .ok (.iload_n 1, 1) := by decide +kernel
theorem dX5_whenLinesCome_53 : decode cX5_whenLinesCome 53 = .ok (.iload 5, 2) := by decide +kernel
theorem dX5_whenLinesCome_55 : decode cX5_whenLinesCome 55 = .ok (.invokestatic 11, 3) := by decide +kernel
theorem dX5_whenLinesCome_58 : decode cX5_whenLinesCome 58 = .ok (.istore 6, 2) := by decide +kernel
theorem dX5_whenLinesCome_60 : decode cX5_whenLinesCome 60 = .ok (.iload_n 0, 1) := by decide +kernel
theorem dX5_whenLinesCome_61 : decode cX5_whenLinesCome 61 = .ok (.invokestatic 26, 3) := by decide +kernel
theorem dX5_whenLinesCome_64 : decode cX5_whenLinesCome 64 = .ok (.iconst 2, 1) := by decide +kernel
theorem dX5_whenLinesCome_65 : decode cX5_whenLinesCome 65 = .ok (.if_icmp .ne 6, 3) := by decide +kernel
theorem dX5_whenLinesCome_68 : decode cX5_whenLinesCome 68 = .ok (.iload 6, 2) := by decide +kernel
theorem dX5_whenLinesCome_70 : decode cX5_whenLinesCome 70 = .ok (.ireturn, 1) := by decide +kernel
theorem dX5_whenLinesCome_71 : decode cX5_whenLinesCome 71 = .ok (.iload 6, 2) := by decide +kernel
theorem dX5_whenLinesCome_73 : decode cX5_whenLinesCome 73 = .ok (.iload_n 1, 1) := by decide +kernel
theorem dX5_whenLinesCome_74 : decode cX5_whenLinesCome 74 = .ok (.iconst 2, 1) := by decide +kernel
theorem dX5_whenLinesCome_75 : decode cX5_whenLinesCome 75 = .ok (.iadd, 1) := by decide +kernel
theorem dX5_whenLinesCome_76 : decode cX5_whenLinesCome 76 = .ok (.iload_n 0, 1) := by decide +kernel
theorem dX5_whenLinesCome_77 : decode cX5_whenLinesCome 77 = .ok (.iload_n 1, 1) := by decide +kernel
theorem dX5_whenLinesCome_78 : decode cX5_whenLinesCome 78 = .ok (.invokestatic 33, 3) := by decide +kernel
theorem dX5_whenLinesCome_81 : decode cX5_whenLinesCome 81 = .ok (.iload_n 3, 1) := by decide +kernel
theorem dX5_whenLinesCome_82 : decode cX5_whenLinesCome 82 = .ok (.iadd, 1) := by decide +kernel
theorem dX5_whenLinesCome_83 : decode cX5_whenLinesCome 83 = .ok (.iconst 5, 1) := by decide +kernel
theorem dX5_whenLinesCome_84 : decode cX5_whenLinesCome 84 = .ok (.invokestatic 39, 3) := by decide +kernel
theorem dX5_whenLinesCome_87 : decode cX5_whenLinesCome 87 = .ok (.invokestatic 11, 3) := by decide +kernel
theorem dX5_whenLinesCome_90 : decode cX5_whenLinesCome 90 = .ok (.ireturn, 1) := by decide +kernel
theorem dX5_whenLinesGo_0 : decode cX5_whenLinesGo 0 = .ok (.iload_n 0, 1) := by decide +kernel
theorem dX5_whenLinesGo_1 : decode cX5_whenLinesGo 1 = .ok (.invokestatic 29, 3) := by decide +kernel
theorem dX5_whenLinesGo_4 : decode cX5_whenLinesGo 4 = .ok (.ifCond .eq 12, 3) := by decide +kernel
theorem dX5_whenLinesGo_7 : decode cX5_whenLinesGo 7 = .ok (.iload_n 0, 1) := by decide +kernel
theorem dX5_whenLinesGo_8 : decode cX5_whenLinesGo 8 = .ok (.iload_n 1, 1) := by decide +kernel
theorem dX5_whenLinesGo_9 : decode cX5_whenLinesGo 9 = .ok (.invokestatic 33, 3) := by decide +kernel
theorem dX5_whenLinesGo_12 : decode cX5_whenLinesGo 12 = .ok (.iload_n 2, 1) := by decide +kernel
theorem dX5_whenLinesGo_13 : decode cX5_whenLinesGo 13 = .ok (.if_icmp .ge 5, 3) := by decide +kernel
theorem dX5_whenLinesGo_16 : decode cX5_whenLinesGo 16 = .ok (.iload_n 0, 1) := by decide +kernel
theorem dX5_whenLinesGo_17 : decode cX5_whenLinesGo 17 = .ok (.ireturn, 1) := by decide +kernel
theorem dX5_whenLinesGo_18 : decode cX5_whenLinesGo 18 = .ok (.iload_n 0, 1) := by decide +kernel
theorem dX5_whenLinesGo_19 : decode cX5_whenLinesGo 19 = .ok (.iload_n 1, 1) := by decide +kernel
theorem dX5_whenLinesGo_20 : decode cX5_whenLinesGo 20 = .ok (.invokestatic 36, 3) := by decide +kernel
theorem dX5_whenLinesGo_23 : decode cX5_whenLinesGo 23 = .ok (.istore 4, 2) := by decide +kernel
theorem dX5_whenLinesGo_25 : decode cX5_whenLinesGo 25 = .ok (.iload_n 0, 1) := by decide +kernel
theorem dX5_whenLinesGo_26 : decode cX5_whenLinesGo 26 = .ok (.iload_n 1, 1) := by decide +kernel
theorem dX5_whenLinesGo_27 : decode cX5_whenLinesGo 27 = .ok (.invokestatic 33, 3) := by decide +kernel
theorem dX5_whenLinesGo_30 : decode cX5_whenLinesGo 30 = .ok (.istore 5, 2) := by decide +kernel
theorem dX5_whenLinesGo_32 : decode cX5_whenLinesGo 32 = .ok (.iload 4, 2) := by decide +kernel
theorem dX5_whenLinesGo_34 : decode cX5_whenLinesGo 34 = .ok (.iload_n 2, 1) := by decide +kernel
theorem dX5_whenLinesGo_35 : decode cX5_whenLinesGo 35 = .ok (.if_icmp .ge 8, 3) := by decide +kernel
theorem dX5_whenLinesGo_38 : decode cX5_whenLinesGo 38 = .ok (.iload 4, 2) := by decide +kernel
theorem dX5_whenLinesGo_40 : decode cX5_whenLinesGo 40 = .ok (.goto 11, 3) := by decide +kernel
theorem dX5_whenLinesGo_43 : decode cX5_whenLinesGo 43 = .ok (.iload 4, 2) := by decide +kernel
theorem dX5_whenLinesGo_45 : decode cX5_whenLinesGo 45 = .ok (.iload_n 3, 1) := by decide +kernel
theorem dX5_whenLinesGo_46 : decode cX5_whenLinesGo 46 = .ok (.isub, 1) := by decide +kernel
theorem dX5_whenLinesGo_47 : decode cX5_whenLinesGo 47 = .ok (.iload_n 2, 1) := by decide +kernel
theorem dX5_whenLinesGo_48 : decode cX5_whenLinesGo 48 = .ok (.invokestatic 44, 3) := by decide +kernel
theorem dX5_whenLinesGo_51 : decode cX5_whenLinesGo 51 = .ok (.istore 6, 2) := by decide +kernel
theorem dX5_whenLinesGo_53 : decode cX5_whenLinesGo 53 = .ok (.iload 5, 2) := by decide +kernel
theorem dX5_whenLinesGo_55 : decode cX5_whenLinesGo 55 = .ok (.iload_n 3, 1) := by decide +kernel
theorem dX5_whenLinesGo_56 : decode cX5_whenLinesGo 56 = .ok (.isub, 1) := by decide +kernel
theorem dX5_whenLinesGo_57 : decode cX5_whenLinesGo 57 = .ok (.iload_n 2, 1) := by decide +kernel
theorem dX5_whenLinesGo_58 : decode cX5_whenLinesGo 58 = .ok (.iconst 1, 1) := by decide +kernel
theorem dX5_whenLinesGo_59 : decode cX5_whenLinesGo 59 = .ok (.isub, 1) := by decide +kernel
theorem dX5_whenLinesGo_60 : decode cX5_whenLinesGo 60 = .ok (.invokestatic 44, 3) := by decide +kernel
theorem dX5_whenLinesGo_63 : decode cX5_whenLinesGo 63 = .ok (.istore 7, 2) := by decide +kernel
theorem dX5_whenLinesGo_65 : decode cX5_whenLinesGo 65 = .ok (.iload 7, 2) := by decide +kernel
theorem dX5_whenLinesGo_67 : decode cX5_whenLinesGo 67 = .ok (.iload 6, 2) := by decide +kernel
theorem dX5_whenLinesGo_69 : decode cX5_whenLinesGo 69 = .ok (.if_icmp .ge 5, 3) := by decide +kernel
theorem dX5_whenLinesGo_72 : decode cX5_whenLinesGo 72 = .ok (.iconst 4, 1) := by decide +kernel
theorem dX5_whenLinesGo_73 : decode cX5_whenLinesGo 73 = .ok (.ireturn, 1) := by decide +kernel
theorem dX5_whenLinesGo_74 : decode cX5_whenLinesGo 74 = .ok (.iload_n 0, 1) := by decide +kernel
theorem dX5_whenLinesGo_75 : decode cX5_whenLinesGo 75 = .ok (.iload_n 1, 1) := by decide +kernel
theorem dX5_whenLinesGo_76 : decode cX5_whenLinesGo 76 = .ok (.iload 6, 2) := by decide +kernel
theorem dX5_whenLinesGo_78 : decode cX5_whenLinesGo 78 = .ok (.invokestatic 11, 3) := by decide +kernel
theorem dX5_whenLinesGo_81 : decode cX5_whenLinesGo 81 = .ok (.istore 8, 2) := by decide +kernel
theorem dX5_whenLinesGo_83 : decode cX5_whenLinesGo 83 = .ok (.iload_n 0, 1) := by decide +kernel
theorem dX5_whenLinesGo_84 : decode cX5_whenLinesGo 84 = .ok (.invokestatic 26, 3) := by decide +kernel
theorem dX5_whenLinesGo_87 : decode cX5_whenLinesGo 87 = .ok (.iconst 2, 1) := by decide +kernel
theorem dX5_whenLinesGo_88 : decode cX5_whenLinesGo 88 = .ok (.if_icmp .ne 8, 3) := by decide +kernel
theorem dX5_whenLinesGo_91 : decode cX5_whenLinesGo 91 = .ok (.iload 8, 2) := by decide +kernel
theorem dX5_whenLinesGo_93 : decode cX5_whenLinesGo 93 = .ok (.goto 13, 3) := by decide +kernel
theorem dX5_whenLinesGo_96 : decode cX5_whenLinesGo 96 = .ok (.iload 8, 2) := by decide +kernel
theorem dX5_whenLinesGo_98 : decode cX5_whenLinesGo 98 = .ok (.iload_n 1, 1) := by decide +kernel
theorem dX5_whenLinesGo_99 : decode cX5_whenLinesGo 99 = .ok (.iconst 2, 1) := by decide +kernel
theorem dX5_whenLinesGo_100 : decode cX5_whenLinesGo 100 = .ok (.iadd, 1) := by decide +kernel
theorem dX5_whenLinesGo_101 : decode cX5_whenLinesGo 101 = .ok (.iload 7, 2) := by decide +kernel
theorem dX5_whenLinesGo_103 : decode cX5_whenLinesGo 103 = .ok (.invokestatic 11, 3) := by decide +kernel
theorem dX5_whenLinesGo_106 : decode cX5_whenLinesGo 106 = .ok (.ireturn, 1) := by decide +kernel
theorem dX5_further_0 : decode cX5_further 0 = .ok (.iload_n 0, 1) := by decide +kernel
theorem dX5_further_1 : decode cX5_further 1 = .ok (.invokestatic 29, 3) := by decide +kernel
theorem dX5_further_4 : decode cX5_further 4 = .ok (.ifCond .ne 5, 3) := by decide +kernel
theorem dX5_further_7 : decode cX5_further 7 = .ok (.iload_n 0, 1) := by decide +kernel
theorem dX5_further_8 : decode cX5_further 8 = .ok (.ireturn, 1) := by decide +kernel
theorem dX5_further_9 : decode cX5_further 9 = .ok (.iload_n 0, 1) := by decide +kernel
theorem dX5_further_10 : decode cX5_further 10 = .ok (.invokestatic 26, 3) := by decide +kernel
theorem dX5_further_13 : decode cX5_further 13 = .ok (.iconst 3, 1) := by decide +kernel
theorem dX5_further_14 : decode cX5_further 14 = .ok (.if_icmp .ne 7, 3) := by decide +kernel
theorem dX5_further_17 : decode cX5_further 17 = .ok (.iconst 4, 1) := by decide +kernel
theorem dX5_further_18 : decode cX5_further 18 = .ok (.goto 4, 3) := by decide +kernel
theorem dX5_further_21 : decode cX5_further 21 = .ok (.iconst 2, 1) := by decide +kernel
theorem dX5_further_22 : decode cX5_further 22 = .ok (.istore 4, 2) := by decide +kernel
theorem dX5_further_24 : decode cX5_further 24 = .ok (.iload_n 0, 1) := by decide +kernel
theorem dX5_further_25 : decode cX5_further 25 = .ok (.istore 5, 2) := by decide +kernel
theorem dX5_further_27 : decode cX5_further 27 = .ok (.iconst 0, 1) := by decide +kernel
theorem dX5_further_28 : decode cX5_further 28 = .ok (.istore 6, 2) := by decide +kernel
theorem dX5_further_30 : decode cX5_further 30 = .ok (.iload 6, 2) := by decide +kernel
theorem dX5_further_32 : decode cX5_further 32 = .ok (.iload 4, 2) := by decide +kernel
theorem dX5_further_34 : decode cX5_further 34 = .ok (.if_icmp .ge 83, 3) := by decide +kernel
theorem dX5_further_37 : decode cX5_further 37 = .ok (.iload_n 3, 1) := by decide +kernel
theorem dX5_further_38 : decode cX5_further 38 = .ok (.iload 6, 2) := by decide +kernel
theorem dX5_further_40 : decode cX5_further 40 = .ok (.ishr, 1) := by decide +kernel
theorem dX5_further_41 : decode cX5_further 41 = .ok (.iconst 1, 1) := by decide +kernel
theorem dX5_further_42 : decode cX5_further 42 = .ok (.iand, 1) := by decide +kernel
theorem dX5_further_43 : decode cX5_further 43 = .ok (.iconst 1, 1) := by decide +kernel
theorem dX5_further_44 : decode cX5_further 44 = .ok (.if_icmp .ne 7, 3) := by decide +kernel
theorem dX5_further_47 : decode cX5_further 47 = .ok (.iconst 1, 1) := by decide +kernel
theorem dX5_further_48 : decode cX5_further 48 = .ok (.goto 4, 3) := by decide +kernel
theorem dX5_further_51 : decode cX5_further 51 = .ok (.iconst 0, 1) := by decide +kernel
theorem dX5_further_52 : decode cX5_further 52 = .ok (.istore 7, 2) := by decide +kernel
theorem dX5_further_54 : decode cX5_further 54 = .ok (.iload 6, 2) := by decide +kernel
theorem dX5_further_56 : decode cX5_further 56 = .ok (.iconst 2, 1) := by decide +kernel
theorem dX5_further_57 : decode cX5_further 57 = .ok (.irem, 1) := by decide +kernel
theorem dX5_further_58 : decode cX5_further 58 = .ok (.ifCond .ne 7, 3) := by decide +kernel
theorem dX5_further_61 : decode cX5_further 61 = .ok (.iload_n 1, 1) := by decide +kernel
theorem dX5_further_62 : decode cX5_further 62 = .ok (.goto 4, 3) := by decide +kernel
theorem dX5_further_65 : decode cX5_further 65 = .ok (.iload_n 2, 1) := by decide +kernel
theorem dX5_further_66 : decode cX5_further 66 = .ok (.istore 8, 2) := by decide +kernel
theorem dX5_further_68 : decode cX5_further 68 = .ok (.iload_n 0, 1) := by decide +kernel
theorem dX5_further_69 : decode cX5_further 69 = .ok (.iload 6, 2) := by decide +kernel
theorem dX5_further_71 : decode cX5_further 71 = .ok (.invokestatic 19, 3) := by decide +kernel
theorem dX5_further_74 : decode cX5_further 74 = .ok (.iload 7, 2) := by decide +kernel
theorem dX5_further_76 : decode cX5_further 76 = .ok (.ifCond .eq 7, 3) := by decide +kernel
theorem dX5_further_79 : decode cX5_further 79 = .ok (.iconst 0, 1) := by decide +kernel
theorem dX5_further_80 : decode cX5_further 80 = .ok (.goto 5, 3) := by decide +kernel
theorem dX5_further_83 : decode cX5_further 83 = .ok (.iload 8, 2) := by decide +kernel
theorem dX5_further_85 : decode cX5_further 85 = .ok (.iadd, 1) := by decide +kernel
theorem dX5_further_86 : decode cX5_further 86 = .ok (.istore 9, 2) := by decide +kernel
theorem dX5_further_88 : decode cX5_further 88 = .ok (.iload 9, 2) := by decide +kernel
theorem dX5_further_90 : decode cX5_further 90 = .ok (.iconst 0, 1) := by decide +kernel
theorem dX5_further_91 : decode cX5_further 91 = .ok (.iconst 5, 1) := by decide +kernel
theorem dX5_further_92 : decode cX5_further 92 = .ok (.invokestatic 47, 3) := by decide +kernel
theorem dX5_further_95 : decode cX5_further 95 = .ok (.ifCond .ne 5, 3) := by decide +kernel
theorem dX5_further_98 : decode cX5_further 98 = .ok (.iconst 4, 1) := by decide +kernel
theorem dX5_further_99 : decode cX5_further 99 = .ok (.ireturn, 1) := by decide +kernel
theorem dX5_further_100 : decode cX5_further 100 = .ok (.iload 5, 2) := by decide +kernel
theorem dX5_further_102 : decode cX5_further 102 = .ok (.iload 6, 2) := by decide +kernel
theorem dX5_further_104 : decode cX5_further 104 = .ok (.iload 9, 2) := by decide +kernel
theorem dX5_further_106 : decode cX5_further 106 = .ok (.invokestatic 11, 3) := by decide +kernel
theorem dX5_further_109 : decode cX5_further 109 = .ok (.istore 5, 2) := by decide +kernel
theorem dX5_further_111 : decode cX5_further 111 = .ok (.iinc 6 1, 3) := by decide +kernel
theorem dX5_further_114 : decode cX5_further 114 = .ok (.goto (-84), 3) := by decide +kernel
theorem dX5_further_117 : decode cX5_further 117 = .ok (.iload_n 0, 1) := by decide +kernel
theorem dX5_further_118 : decode cX5_further 118 = .ok (.invokestatic 26, 3) := by decide +kernel
theorem dX5_further_121 : decode cX5_further 121 = .ok (.iconst 3, 1) := by decide +kernel
theorem dX5_further_122 : decode cX5_further 122 = .ok (.if_icmp .ne 11, 3) := by decide +kernel
theorem dX5_further_125 : decode cX5_further 125 = .ok (.iload 5, 2) := by decide +kernel
theorem dX5_further_127 : decode cX5_further 127 = .ok (.invokestatic 23, 3) := by decide +kernel
theorem dX5_further_130 : decode cX5_further 130 = .ok (.goto 5, 3) := by decide +kernel
theorem dX5_further_133 : decode cX5_further 133 = .ok (.iload 5, 2) := by decide +kernel
theorem dX5_further_135 : decode cX5_further 135 = .ok (.ireturn, 1) := by decide +kernel
theorem dX5_ordered_0 : decode cX5_ordered 0 = .ok (.iload_n 0, 1) := by decide +kernel
theorem dX5_ordered_1 : decode cX5_ordered 1 = .ok (.istore_n 1, 1) := by decide +kernel
theorem dX5_ordered_2 : decode cX5_ordered 2 = .ok (.iconst 0, 1) := by decide +kernel
theorem dX5_ordered_3 : decode cX5_ordered 3 = .ok (.istore_n 2, 1) := by decide +kernel
theorem dX5_ordered_4 : decode cX5_ordered 4 = .ok (.iload_n 2, 1) := by decide +kernel
theorem dX5_ordered_5 : decode cX5_ordered 5 = .ok (.iconst 1, 1) := by decide +kernel
theorem dX5_ordered_6 : decode cX5_ordered 6 = .ok (.if_icmp .gt 30, 3) := by decide +kernel
theorem dX5_ordered_9 : decode cX5_ordered 9 = .ok (.iload_n 1, 1) := by decide +kernel
theorem dX5_ordered_10 : decode cX5_ordered 10 = .ok (.iload_n 2, 1) := by decide +kernel
theorem dX5_ordered_11 : decode cX5_ordered 11 = .ok (.invokestatic 19, 3) := by decide +kernel
theorem dX5_ordered_14 : decode cX5_ordered 14 = .ok (.iload_n 1, 1) := by decide +kernel
theorem dX5_ordered_15 : decode cX5_ordered 15 = .ok (.iload_n 2, 1) := by decide +kernel
theorem dX5_ordered_16 : decode cX5_ordered 16 = .ok (.iconst 2, 1) := by decide +kernel
theorem dX5_ordered_17 : decode cX5_ordered 17 = .ok (.iadd, 1) := by decide +kernel
theorem dX5_ordered_18 : decode cX5_ordered 18 = .ok (.invokestatic 19, 3) := by decide +kernel
theorem dX5_ordered_21 : decode cX5_ordered 21 = .ok (.if_icmp .le 9, 3) := by decide +kernel
theorem dX5_ordered_24 : decode cX5_ordered 24 = .ok (.iload_n 1, 1) := by decide +kernel
theorem dX5_ordered_25 : decode cX5_ordered 25 = .ok (.iload_n 2, 1) := by decide +kernel
theorem dX5_ordered_26 : decode cX5_ordered 26 = .ok (.invokestatic 51, 3) := by decide +kernel
theorem dX5_ordered_29 : decode cX5_ordered 29 = .ok (.istore_n 1, 1) := by decide +kernel
theorem dX5_ordered_30 : decode cX5_ordered 30 = .ok (.iinc 2 1, 3) := by decide +kernel
theorem dX5_ordered_33 : decode cX5_ordered 33 = .ok (.goto (-29), 3) := by decide +kernel
theorem dX5_ordered_36 : decode cX5_ordered 36 = .ok (.iload_n 1, 1) := by decide +kernel
theorem dX5_ordered_37 : decode cX5_ordered 37 = .ok (.ireturn, 1) := by decide +kernel
theorem dX5_crossed_0 : decode cX5_crossed 0 = .ok (.iload_n 0, 1) := by decide +kernel
theorem dX5_crossed_1 : decode cX5_crossed 1 = .ok (.iload_n 1, 1) := by decide +kernel
theorem dX5_crossed_2 : decode cX5_crossed 2 = .ok (.invokestatic 19, 3) := by decide +kernel
theorem dX5_crossed_5 : decode cX5_crossed 5 = .ok (.istore_n 2, 1) := by decide +kernel
theorem dX5_crossed_6 : decode cX5_crossed 6 = .ok (.iload_n 0, 1) := by decide +kernel
theorem dX5_crossed_7 : decode cX5_crossed 7 = .ok (.iload_n 1, 1) := by decide +kernel
theorem dX5_crossed_8 : decode cX5_crossed 8 = .ok (.iconst 2, 1) := by decide +kernel
theorem dX5_crossed_9 : decode cX5_crossed 9 = .ok (.iadd, 1) := by decide +kernel
theorem dX5_crossed_10 : decode cX5_crossed 10 = .ok (.invokestatic 19, 3) := by decide +kernel
theorem dX5_crossed_13 : decode cX5_crossed 13 = .ok (.istore_n 3, 1) := by decide +kernel
theorem dX5_crossed_14 : decode cX5_crossed 14 = .ok (.iload_n 0, 1) := by decide +kernel
theorem dX5_crossed_15 : decode cX5_crossed 15 = .ok (.iload_n 1, 1) := by decide +kernel
theorem dX5_crossed_16 : decode cX5_crossed 16 = .ok (.iload_n 3, 1) := by decide +kernel
theorem dX5_crossed_17 : decode cX5_crossed 17 = .ok (.invokestatic 11, 3) := by decide +kernel
theorem dX5_crossed_20 : decode cX5_crossed 20 = .ok (.iload_n 1, 1) := by decide +kernel
theorem dX5_crossed_21 : decode cX5_crossed 21 = .ok (.iconst 2, 1) := by decide +kernel
theorem dX5_crossed_22 : decode cX5_crossed 22 = .ok (.iadd, 1) := by decide +kernel
theorem dX5_crossed_23 : decode cX5_crossed 23 = .ok (.iload_n 2, 1) := by decide +kernel
theorem dX5_crossed_24 : decode cX5_crossed 24 = .ok (.invokestatic 11, 3) := by decide +kernel
theorem dX5_crossed_27 : decode cX5_crossed 27 = .ok (.istore 4, 2) := by decide +kernel
theorem dX5_crossed_29 : decode cX5_crossed 29 = .ok (.iload_n 0, 1) := by decide +kernel
theorem dX5_crossed_30 : decode cX5_crossed 30 = .ok (.invokestatic 15, 3) := by decide +kernel
theorem dX5_crossed_33 : decode cX5_crossed 33 = .ok (.iload_n 1, 1) := by decide +kernel
theorem dX5_crossed_34 : decode cX5_crossed 34 = .ok (.ishr, 1) := by decide +kernel
theorem dX5_crossed_35 : decode cX5_crossed 35 = .ok (.iconst 1, 1) := by decide +kernel
theorem dX5_crossed_36 : decode cX5_crossed 36 = .ok (.iand, 1) := by decide +kernel
theorem dX5_crossed_37 : decode cX5_crossed 37 = .ok (.istore 5, 2) := by decide +kernel
theorem dX5_crossed_39 : decode cX5_crossed 39 = .ok (.iload_n 0, 1) := by decide +kernel
theorem dX5_crossed_40 : decode cX5_crossed 40 = .ok (.invokestatic 15, 3) := by decide +kernel
theorem dX5_crossed_43 : decode cX5_crossed 43 = .ok (.iload_n 1, 1) := by decide +kernel
theorem dX5_crossed_44 : decode cX5_crossed 44 = .ok (.iconst 2, 1) := by decide +kernel
theorem dX5_crossed_45 : decode cX5_crossed 45 = .ok (.iadd, 1) := by decide +kernel
theorem dX5_crossed_46 : decode cX5_crossed 46 = .ok (.ishr, 1) := by decide +kernel
theorem dX5_crossed_47 : decode cX5_crossed 47 = .ok (.iconst 1, 1) := by decide +kernel
theorem dX5_crossed_48 : decode cX5_crossed 48 = .ok (.iand, 1) := by decide +kernel
theorem dX5_crossed_49 : decode cX5_crossed 49 = .ok (.istore 6, 2) := by decide +kernel
theorem dX5_crossed_51 : decode cX5_crossed 51 = .ok (.iload 5, 2) := by decide +kernel
theorem dX5_crossed_53 : decode cX5_crossed 53 = .ok (.iload 6, 2) := by decide +kernel
theorem dX5_crossed_55 : decode cX5_crossed 55 = .ok (.if_icmp .ne 8, 3) := by decide +kernel
theorem dX5_crossed_58 : decode cX5_crossed 58 = .ok (.iload 4, 2) := by decide +kernel
theorem dX5_crossed_60 : decode cX5_crossed 60 = .ok (.goto 11, 3) := by decide +kernel
theorem dX5_crossed_63 : decode cX5_crossed 63 = .ok (.iload 4, 2) := by decide +kernel
theorem dX5_crossed_65 : decode cX5_crossed 65 = .ok (.iconst 5, 1) := by decide +kernel
theorem dX5_crossed_66 : decode cX5_crossed 66 = .ok (.iload_n 1, 1) := by decide +kernel
theorem dX5_crossed_67 : decode cX5_crossed 67 = .ok (.ishl, 1) := by decide +kernel
theorem dX5_crossed_68 : decode cX5_crossed 68 = .ok (.iconst 3, 1) := by decide +kernel
theorem dX5_crossed_69 : decode cX5_crossed 69 = .ok (.ishl, 1) := by decide +kernel
theorem dX5_crossed_70 : decode cX5_crossed 70 = .ok (.ixor, 1) := by decide +kernel
theorem dX5_crossed_71 : decode cX5_crossed 71 = .ok (.ireturn, 1) := by decide +kernel
theorem dX5_with_0 : decode cX5_with 0 = .ok (.bipush 7, 2) := by decide +kernel
theorem dX5_with_2 : decode cX5_with 2 = .ok (.iconst 3, 1) := by decide +kernel
theorem dX5_with_3 : decode cX5_with 3 = .ok (.iload_n 1, 1) := by decide +kernel
theorem dX5_with_4 : decode cX5_with 4 = .ok (.imul, 1) := by decide +kernel
theorem dX5_with_5 : decode cX5_with 5 = .ok (.iadd, 1) := by decide +kernel
theorem dX5_with_6 : decode cX5_with 6 = .ok (.istore_n 3, 1) := by decide +kernel
theorem dX5_with_7 : decode cX5_with 7 = .ok (.iload_n 0, 1) := by decide +kernel
theorem dX5_with_8 : decode cX5_with 8 = .ok (.bipush 7, 2) := by decide +kernel
theorem dX5_with_10 : decode cX5_with 10 = .ok (.iload_n 3, 1) := by decide +kernel
theorem dX5_with_11 : decode cX5_with 11 = .ok (.ishl, 1) := by decide +kernel
theorem dX5_with_12 : decode cX5_with 12 = .ok (.iconst (-1), 1) := by decide +kernel
theorem dX5_with_13 : decode cX5_with 13 = .ok (.ixor, 1) := by decide +kernel
theorem dX5_with_14 : decode cX5_with 14 = .ok (.iand, 1) := by decide +kernel
theorem dX5_with_15 : decode cX5_with 15 = .ok (.iload_n 2, 1) := by decide +kernel
theorem dX5_with_16 : decode cX5_with 16 = .ok (.iload_n 3, 1) := by decide +kernel
theorem dX5_with_17 : decode cX5_with 17 = .ok (.ishl, 1) := by decide +kernel
theorem dX5_with_18 : decode cX5_with 18 = .ok (.ior, 1) := by decide +kernel
theorem dX5_with_19 : decode cX5_with 19 = .ok (.ireturn, 1) := by decide +kernel
theorem dX6_init_0 : decode cX6_init 0 = .ok (.aload_n 0, 1) := by decide +kernel
theorem dX6_init_1 : decode cX6_init 1 = .ok (.invokespecial 1, 3) := by decide +kernel
theorem dX6_init_4 : decode cX6_init 4 = .ok (.aload_n 0, 1) := by decide +kernel
theorem dX6_init_5 : decode cX6_init 5 = .ok (.bipush 60, 2) := by decide +kernel
theorem dX6_init_7 : decode cX6_init 7 = .ok (.newarray .int, 2) := by decide +kernel
theorem dX6_init_9 : decode cX6_init 9 = .ok (.putfield 9, 3) := by decide +kernel
theorem dX6_init_12 : decode cX6_init 12 = .ok (.return_, 1) := by decide +kernel
theorem dX6_isFull_0 : decode cX6_isFull 0 = .ok (.aload_n 0, 1) := by decide +kernel
theorem dX6_isFull_1 : decode cX6_isFull 1 = .ok (.getfield 13, 3) := by decide +kernel
theorem dX6_isFull_4 : decode cX6_isFull 4 = .ok (.bipush 60, 2) := by decide +kernel
theorem dX6_isFull_6 : decode cX6_isFull 6 = .ok (.if_icmp .lt 7, 3) := by decide +kernel
theorem dX6_isFull_9 : decode cX6_isFull 9 = .ok (.iconst 1, 1) := by decide +kernel
theorem dX6_isFull_10 : decode cX6_isFull 10 = .ok (.goto 4, 3) := by decide +kernel
theorem dX6_isFull_13 : decode cX6_isFull 13 = .ok (.iconst 0, 1) := by decide +kernel
theorem dX6_isFull_14 : decode cX6_isFull 14 = .ok (.ireturn, 1) := by decide +kernel
theorem dX6_add_0 : decode cX6_add 0 = .ok (.aload_n 0, 1) := by decide +kernel
theorem dX6_add_1 : decode cX6_add 1 = .ok (.getfield 13, 3) := by decide +kernel
theorem dX6_add_4 : decode cX6_add 4 = .ok (.bipush 60, 2) := by decide +kernel
theorem dX6_add_6 : decode cX6_add 6 = .ok (.if_icmp .ge 23, 3) := by decide +kernel
theorem dX6_add_9 : decode cX6_add 9 = .ok (.aload_n 0, 1) := by decide +kernel
theorem dX6_add_10 : decode cX6_add 10 = .ok (.getfield 9, 3) := by decide +kernel
theorem dX6_add_13 : decode cX6_add 13 = .ok (.aload_n 0, 1) := by decide +kernel
theorem dX6_add_14 : decode cX6_add 14 = .ok (.getfield 13, 3) := by decide +kernel
theorem dX6_add_17 : decode cX6_add 17 = .ok (.iload_n 1, 1) := by decide +kernel
theorem dX6_add_18 : decode cX6_add 18 = .ok (.iastore, 1) := by decide +kernel
theorem dX6_add_19 : decode cX6_add 19 = .ok (.aload_n 0, 1) := by decide +kernel
theorem dX6_add_20 : decode cX6_add 20 = .ok (.dup, 1) := by decide +kernel
theorem dX6_add_21 : decode cX6_add 21 = .ok (.getfield 13, 3) := by decide +kernel
theorem dX6_add_24 : decode cX6_add 24 = .ok (.iconst 1, 1) := by decide +kernel
theorem dX6_add_25 : decode cX6_add 25 = .ok (.iadd, 1) := by decide +kernel
theorem dX6_add_26 : decode cX6_add 26 = .ok (.putfield 13, 3) := by decide +kernel
theorem dX6_add_29 : decode cX6_add 29 = .ok (.aload_n 0, 1) := by decide +kernel
theorem dX6_add_30 : decode cX6_add 30 = .ok (.getfield 13, 3) := by decide +kernel
theorem dX6_add_33 : decode cX6_add 33 = .ok (.ireturn, 1) := by decide +kernel
theorem dX6_drop_0 : decode cX6_drop 0 = .ok (.aload_n 0, 1) := by decide +kernel
theorem dX6_drop_1 : decode cX6_drop 1 = .ok (.getfield 13, 3) := by decide +kernel
theorem dX6_drop_4 : decode cX6_drop 4 = .ok (.istore_n 1, 1) := by decide +kernel
theorem dX6_drop_5 : decode cX6_drop 5 = .ok (.aload_n 0, 1) := by decide +kernel
theorem dX6_drop_6 : decode cX6_drop 6 = .ok (.iconst 0, 1) := by decide +kernel
theorem dX6_drop_7 : decode cX6_drop 7 = .ok (.putfield 13, 3) := by decide +kernel
theorem dX6_drop_10 : decode cX6_drop 10 = .ok (.iload_n 1, 1) := by decide +kernel
theorem dX6_drop_11 : decode cX6_drop 11 = .ok (.ireturn, 1) := by decide +kernel
theorem dX6_byteAt_0 : decode cX6_byteAt 0 = .ok (.iload_n 1, 1) := by decide +kernel
theorem dX6_byteAt_1 : decode cX6_byteAt 1 = .ok (.ifCond .lt 20, 3) := by decide +kernel
theorem dX6_byteAt_4 : decode cX6_byteAt 4 = .ok (.iload_n 1, 1) := by decide +kernel
theorem dX6_byteAt_5 : decode cX6_byteAt 5 = .ok (.aload_n 0, 1) := by decide +kernel
theorem dX6_byteAt_6 : decode cX6_byteAt 6 = .ok (.getfield 13, 3) := by decide +kernel
theorem dX6_byteAt_9 : decode cX6_byteAt 9 = .ok (.if_icmp .ge 12, 3) := by decide +kernel
theorem dX6_byteAt_12 : decode cX6_byteAt 12 = .ok (.aload_n 0, 1) := by decide +kernel
theorem dX6_byteAt_13 : decode cX6_byteAt 13 = .ok (.getfield 9, 3) := by decide +kernel
theorem dX6_byteAt_16 : decode cX6_byteAt 16 = .ok (.iload_n 1, 1) := by decide +kernel
theorem dX6_byteAt_17 : decode cX6_byteAt 17 = .ok (.iaload, 1) := by decide +kernel
theorem dX6_byteAt_18 : decode cX6_byteAt 18 = .ok (.goto 4, 3) := by decide +kernel
theorem dX6_byteAt_21 : decode cX6_byteAt 21 = .ok (.iconst (-1), 1) := by decide +kernel
theorem dX6_byteAt_22 : decode cX6_byteAt 22 = .ok (.ireturn, 1) := by decide +kernel
theorem dX7_init_0 : decode cX7_init 0 = .ok (.aload_n 0, 1) := by decide +kernel
theorem dX7_init_1 : decode cX7_init 1 = .ok (.invokespecial 3, 3) := by decide +kernel
theorem dX7_init_4 : decode cX7_init 4 = .ok (.aload_n 0, 1) := by decide +kernel
theorem dX7_init_5 : decode cX7_init 5 = .ok (.bipush 36, 2) := by decide +kernel
theorem dX7_init_7 : decode cX7_init 7 = .ok (.newarray .int, 2) := by decide +kernel
theorem dX7_init_9 : decode cX7_init 9 = .ok (.putfield 9, 3) := by decide +kernel
theorem dX7_init_12 : decode cX7_init 12 = .ok (.aload_n 0, 1) := by decide +kernel
theorem dX7_init_13 : decode cX7_init 13 = .ok (.bipush 36, 2) := by decide +kernel
theorem dX7_init_15 : decode cX7_init 15 = .ok (.newarray .int, 2) := by decide +kernel
theorem dX7_init_17 : decode cX7_init 17 = .ok (.putfield 15, 3) := by decide +kernel
theorem dX7_init_20 : decode cX7_init 20 = .ok (.aload_n 0, 1) := by decide +kernel
theorem dX7_init_21 : decode cX7_init 21 = .ok (.bipush 36, 2) := by decide +kernel
theorem dX7_init_23 : decode cX7_init 23 = .ok (.newarray .int, 2) := by decide +kernel
theorem dX7_init_25 : decode cX7_init 25 = .ok (.putfield 18, 3) := by decide +kernel
theorem dX7_init_28 : decode cX7_init 28 = .ok (.aload_n 0, 1) := by decide +kernel
theorem dX7_init_29 : decode cX7_init 29 = .ok (.bipush 36, 2) := by decide +kernel
theorem dX7_init_31 : decode cX7_init 31 = .ok (.newarray .int, 2) := by decide +kernel
theorem dX7_init_33 : decode cX7_init 33 = .ok (.putfield 21, 3) := by decide +kernel
theorem dX7_init_36 : decode cX7_init 36 = .ok (.aload_n 0, 1) := by decide +kernel
theorem dX7_init_37 : decode cX7_init 37 = .ok (.bipush 36, 2) := by decide +kernel
theorem dX7_init_39 : decode cX7_init 39 = .ok (.newarray .boolean, 2) := by decide +kernel
theorem dX7_init_41 : decode cX7_init 41 = .ok (.putfield 24, 3) := by decide +kernel
theorem dX7_init_44 : decode cX7_init 44 = .ok (.aload_n 0, 1) := by decide +kernel
theorem dX7_init_45 : decode cX7_init 45 = .ok (.aload_n 1, 1) := by decide +kernel
theorem dX7_init_46 : decode cX7_init 46 = .ok (.putfield 28, 3) := by decide +kernel
theorem dX7_init_49 : decode cX7_init 49 = .ok (.aload_n 0, 1) := by decide +kernel
theorem dX7_init_50 : decode cX7_init 50 = .ok (.getfield 9, 3) := by decide +kernel
theorem dX7_init_53 : decode cX7_init 53 = .ok (.iconst (-1), 1) := by decide +kernel
theorem dX7_init_54 : decode cX7_init 54 = .ok (.invokestatic 32, 3) := by decide +kernel
theorem dX7_init_57 : decode cX7_init 57 = .ok (.return_, 1) := by decide +kernel
theorem dX7_forget_0 : decode cX7_forget 0 = .ok (.aload_n 0, 1) := by decide +kernel
theorem dX7_forget_1 : decode cX7_forget 1 = .ok (.getfield 9, 3) := by decide +kernel
theorem dX7_forget_4 : decode cX7_forget 4 = .ok (.iconst (-1), 1) := by decide +kernel
theorem dX7_forget_5 : decode cX7_forget 5 = .ok (.invokestatic 32, 3) := by decide +kernel
theorem dX7_forget_8 : decode cX7_forget 8 = .ok (.return_, 1) := by decide +kernel
theorem dX7_faultyCells_0 : decode cX7_faultyCells 0 = .ok (.iconst 0, 1) := by decide +kernel
theorem dX7_faultyCells_1 : decode cX7_faultyCells 1 = .ok (.istore_n 1, 1) := by decide +kernel
theorem dX7_faultyCells_2 : decode cX7_faultyCells 2 = .ok (.iconst 0, 1) := by decide +kernel
theorem dX7_faultyCells_3 : decode cX7_faultyCells 3 = .ok (.istore_n 2, 1) := by decide +kernel
theorem dX7_faultyCells_4 : decode cX7_faultyCells 4 = .ok (.iload_n 2, 1) := by decide +kernel
theorem dX7_faultyCells_5 : decode cX7_faultyCells 5 = .ok (.bipush 36, 2) := by decide +kernel
theorem dX7_faultyCells_7 : decode cX7_faultyCells 7 = .ok (.if_icmp .ge 20, 3) := by decide +kernel
theorem dX7_faultyCells_10 : decode cX7_faultyCells 10 = .ok (.aload_n 0, 1) := by decide +kernel
theorem dX7_faultyCells_11 : decode cX7_faultyCells 11 = .ok (.iload_n 2, 1) := by decide +kernel
theorem dX7_faultyCells_12 : decode cX7_faultyCells 12 = .ok (.invokevirtual 38, 3) := by decide +kernel
theorem dX7_faultyCells_15 : decode cX7_faultyCells 15 = .ok (.ifCond .eq 6, 3) := by decide +kernel
theorem dX7_faultyCells_18 : decode cX7_faultyCells 18 = .ok (.iinc 1 1, 3) := by decide +kernel
theorem dX7_faultyCells_21 : decode cX7_faultyCells 21 = .ok (.iinc 2 1, 3) := by decide +kernel
theorem dX7_faultyCells_24 : decode cX7_faultyCells 24 = .ok (.goto (-20), 3) := by decide +kernel
theorem dX7_faultyCells_27 : decode cX7_faultyCells 27 = .ok (.iload_n 1, 1) := by decide +kernel
theorem dX7_faultyCells_28 : decode cX7_faultyCells 28 = .ok (.ireturn, 1) := by decide +kernel
theorem dX7_isFaulty_0 : decode cX7_isFaulty 0 = .ok (.aload_n 0, 1) := by decide +kernel
theorem dX7_isFaulty_1 : decode cX7_isFaulty 1 = .ok (.getfield 9, 3) := by decide +kernel
theorem dX7_isFaulty_4 : decode cX7_isFaulty 4 = .ok (.iload_n 1, 1) := by decide +kernel
theorem dX7_isFaulty_5 : decode cX7_isFaulty 5 = .ok (.iaload, 1) := by decide +kernel
theorem dX7_isFaulty_6 : decode cX7_isFaulty 6 = .ok (.iconst (-1), 1) := by decide +kernel
theorem dX7_isFaulty_7 : decode cX7_isFaulty 7 = .ok (.if_icmp .ne 52, 3) := by decide +kernel
theorem dX7_isFaulty_10 : decode cX7_isFaulty 10 = .ok (.aload_n 0, 1) := by decide +kernel
theorem dX7_isFaulty_11 : decode cX7_isFaulty 11 = .ok (.iconst 0, 1) := by decide +kernel
theorem dX7_isFaulty_12 : decode cX7_isFaulty 12 = .ok (.putfield 42, 3) := by decide +kernel
theorem dX7_isFaulty_15 : decode cX7_isFaulty 15 = .ok (.aload_n 0, 1) := by decide +kernel
theorem dX7_isFaulty_16 : decode cX7_isFaulty 16 = .ok (.iload_n 1, 1) := by decide +kernel
theorem dX7_isFaulty_17 : decode cX7_isFaulty 17 = .ok (.iconst 0, 1) := by decide +kernel
theorem dX7_isFaulty_18 : decode cX7_isFaulty 18 = .ok (.invokevirtual 46, 3) := by decide +kernel
theorem dX7_isFaulty_21 : decode cX7_isFaulty 21 = .ok (.pop, 1) := by decide +kernel
theorem dX7_isFaulty_22 : decode cX7_isFaulty 22 = .ok (.aload_n 0, 1) := by decide +kernel
theorem dX7_isFaulty_23 : decode cX7_isFaulty 23 = .ok (.getfield 42, 3) := by decide +kernel
theorem dX7_isFaulty_26 : decode cX7_isFaulty 26 = .ok (.ifCond .eq 33, 3) := by decide +kernel
theorem dX7_isFaulty_29 : decode cX7_isFaulty 29 = .ok (.aload_n 0, 1) := by decide +kernel
theorem dX7_isFaulty_30 : decode cX7_isFaulty 30 = .ok (.getfield 9, 3) := by decide +kernel
theorem dX7_isFaulty_33 : decode cX7_isFaulty 33 = .ok (.iload_n 1, 1) := by decide +kernel
theorem dX7_isFaulty_34 : decode cX7_isFaulty 34 = .ok (.aload_n 0, 1) := by decide +kernel
theorem dX7_isFaulty_35 : decode cX7_isFaulty 35 = .ok (.getfield 42, 3) := by decide +kernel
theorem dX7_isFaulty_38 : decode cX7_isFaulty 38 = .ok (.iastore, 1) := by decide +kernel
theorem dX7_isFaulty_39 : decode cX7_isFaulty 39 = .ok (.aload_n 0, 1) := by decide +kernel
theorem dX7_isFaulty_40 : decode cX7_isFaulty 40 = .ok (.getfield 18, 3) := by decide +kernel
theorem dX7_isFaulty_43 : decode cX7_isFaulty 43 = .ok (.iload_n 1, 1) := by decide +kernel
theorem dX7_isFaulty_44 : decode cX7_isFaulty 44 = .ok (.aload_n 0, 1) := by decide +kernel
theorem dX7_isFaulty_45 : decode cX7_isFaulty 45 = .ok (.getfield 50, 3) := by decide +kernel
theorem dX7_isFaulty_48 : decode cX7_isFaulty 48 = .ok (.iastore, 1) := by decide +kernel
theorem dX7_isFaulty_49 : decode cX7_isFaulty 49 = .ok (.aload_n 0, 1) := by decide +kernel
theorem dX7_isFaulty_50 : decode cX7_isFaulty 50 = .ok (.getfield 21, 3) := by decide +kernel
theorem dX7_isFaulty_53 : decode cX7_isFaulty 53 = .ok (.iload_n 1, 1) := by decide +kernel
theorem dX7_isFaulty_54 : decode cX7_isFaulty 54 = .ok (.aload_n 0, 1) := by decide +kernel
theorem dX7_isFaulty_55 : decode cX7_isFaulty 55 = .ok (.getfield 53, 3) := by decide +kernel
theorem dX7_isFaulty_58 : decode cX7_isFaulty 58 = .ok (.iastore, 1) := by decide +kernel
theorem dX7_isFaulty_59 : decode cX7_isFaulty 59 = .ok (.aload_n 0, 1) := by decide +kernel
theorem dX7_isFaulty_60 : decode cX7_isFaulty 60 = .ok (.getfield 9, 3) := by decide +kernel
theorem dX7_isFaulty_63 : decode cX7_isFaulty 63 = .ok (.iload_n 1, 1) := by decide +kernel
theorem dX7_isFaulty_64 : decode cX7_isFaulty 64 = .ok (.iaload, 1) := by decide +kernel
theorem dX7_isFaulty_65 : decode cX7_isFaulty 65 = .ok (.ifCond .eq 7, 3) := by decide +kernel
theorem dX7_isFaulty_68 : decode cX7_isFaulty 68 = .ok (.iconst 1, 1) := by decide +kernel
theorem dX7_isFaulty_69 : decode cX7_isFaulty 69 = .ok (.goto 4, 3) := by decide +kernel
theorem dX7_isFaulty_72 : decode cX7_isFaulty 72 = .ok (.iconst 0, 1) := by decide +kernel
theorem dX7_isFaulty_73 : decode cX7_isFaulty 73 = .ok (.ireturn, 1) := by decide +kernel
theorem dX7_ask_0 : decode cX7_ask 0 = .ok (.aload_n 0, 1) := by decide +kernel
theorem dX7_ask_1 : decode cX7_ask 1 = .ok (.getfield 9, 3) := by decide +kernel
theorem dX7_ask_4 : decode cX7_ask 4 = .ok (.iload_n 1, 1) := by decide +kernel
theorem dX7_ask_5 : decode cX7_ask 5 = .ok (.iaload, 1) := by decide +kernel
theorem dX7_ask_6 : decode cX7_ask 6 = .ok (.ifCond .ne 10, 3) := by decide +kernel
theorem dX7_ask_9 : decode cX7_ask 9 = .ok (.aload_n 0, 1) := by decide +kernel
theorem dX7_ask_10 : decode cX7_ask 10 = .ok (.getfield 15, 3) := by decide +kernel
theorem dX7_ask_13 : decode cX7_ask 13 = .ok (.iload_n 1, 1) := by decide +kernel
theorem dX7_ask_14 : decode cX7_ask 14 = .ok (.iaload, 1) := by decide +kernel
theorem dX7_ask_15 : decode cX7_ask 15 = .ok (.ireturn, 1) := by decide +kernel
theorem dX7_ask_16 : decode cX7_ask 16 = .ok (.aload_n 0, 1) := by decide +kernel
theorem dX7_ask_17 : decode cX7_ask 17 = .ok (.getfield 24, 3) := by decide +kernel
theorem dX7_ask_20 : decode cX7_ask 20 = .ok (.iload_n 1, 1) := by decide +kernel
theorem dX7_ask_21 : decode cX7_ask 21 = .ok (.baload, 1) := by decide +kernel
theorem dX7_ask_22 : decode cX7_ask 22 = .ok (.ifCond .ne 9, 3) := by decide +kernel
theorem dX7_ask_25 : decode cX7_ask 25 = .ok (.iload_n 2, 1) := by decide +kernel
theorem dX7_ask_26 : decode cX7_ask 26 = .ok (.bipush 36, 2) := by decide +kernel
theorem dX7_ask_28 : decode cX7_ask 28 = .ok (.if_icmp .lt 14, 3) := by decide +kernel
theorem dX7_ask_31 : decode cX7_ask 31 = .ok (.aload_n 0, 1) := by decide +kernel
theorem dX7_ask_32 : decode cX7_ask 32 = .ok (.iconst 2, 1) := by decide +kernel
theorem dX7_ask_33 : decode cX7_ask 33 = .ok (.iload_n 1, 1) := by decide +kernel
theorem dX7_ask_34 : decode cX7_ask 34 = .ok (.iload_n 2, 1) := by decide +kernel
theorem dX7_ask_35 : decode cX7_ask 35 = .ok (.iconst 1, 1) := by decide +kernel
theorem dX7_ask_36 : decode cX7_ask 36 = .ok (.isub, 1) := by decide +kernel
theorem dX7_ask_37 : decode cX7_ask 37 = .ok (.invokevirtual 56, 3) := by decide +kernel
theorem dX7_ask_40 : decode cX7_ask 40 = .ok (.iconst 0, 1) := by decide +kernel
theorem dX7_ask_41 : decode cX7_ask 41 = .ok (.ireturn, 1) := by decide +kernel
theorem dX7_ask_42 : decode cX7_ask 42 = .ok (.aload_n 0, 1) := by decide +kernel
theorem dX7_ask_43 : decode cX7_ask 43 = .ok (.getfield 24, 3) := by decide +kernel
theorem dX7_ask_46 : decode cX7_ask 46 = .ok (.iload_n 1, 1) := by decide +kernel
theorem dX7_ask_47 : decode cX7_ask 47 = .ok (.iconst 1, 1) := by decide +kernel
theorem dX7_ask_48 : decode cX7_ask 48 = .ok (.bastore, 1) := by decide +kernel
theorem dX7_ask_49 : decode cX7_ask 49 = .ok (.iconst 0, 1) := by decide +kernel
theorem dX7_ask_50 : decode cX7_ask 50 = .ok (.istore_n 3, 1) := by decide +kernel
theorem dX7_ask_51 : decode cX7_ask 51 = .ok (.iconst 0, 1) := by decide +kernel
theorem dX7_ask_52 : decode cX7_ask 52 = .ok (.istore 4, 2) := by decide +kernel
theorem dX7_ask_54 : decode cX7_ask 54 = .ok (.iload 4, 2) := by decide +kernel
theorem dX7_ask_56 : decode cX7_ask 56 = .ok (.iconst 4, 1) := by decide +kernel
theorem dX7_ask_57 : decode cX7_ask 57 = .ok (.if_icmp .ge 34, 3) := by decide +kernel
theorem dX7_ask_60 : decode cX7_ask 60 = .ok (.aload_n 0, 1) := by decide +kernel
theorem dX7_ask_61 : decode cX7_ask 61 = .ok (.getfield 42, 3) := by decide +kernel
theorem dX7_ask_64 : decode cX7_ask 64 = .ok (.ifCond .ne 27, 3) := by decide +kernel
theorem dX7_ask_67 : decode cX7_ask 67 = .ok (.aload_n 0, 1) := by decide +kernel
theorem dX7_ask_68 : decode cX7_ask 68 = .ok (.iload_n 3, 1) := by decide +kernel
theorem dX7_ask_69 : decode cX7_ask 69 = .ok (.aload_n 0, 1) := by decide +kernel
theorem dX7_ask_70 : decode cX7_ask 70 = .ok (.getfield 28, 3) := by decide +kernel
theorem dX7_ask_73 : decode cX7_ask 73 = .ok (.iload_n 1, 1) := by decide +kernel
theorem dX7_ask_74 : decode cX7_ask 74 = .ok (.iload 4, 2) := by decide +kernel
theorem dX7_ask_76 : decode cX7_ask 76 = .ok (.invokevirtual 60, 3) := by decide +kernel
theorem dX7_ask_79 : decode cX7_ask 79 = .ok (.iload_n 1, 1) := by decide +kernel
theorem dX7_ask_80 : decode cX7_ask 80 = .ok (.iload_n 2, 1) := by decide +kernel
theorem dX7_ask_81 : decode cX7_ask 81 = .ok (.invokevirtual 65, 3) := by decide +kernel
theorem dX7_ask_84 : decode cX7_ask 84 = .ok (.istore_n 3, 1) := by decide +kernel
theorem dX7_ask_85 : decode cX7_ask 85 = .ok (.iinc 4 1, 3) := by decide +kernel
theorem dX7_ask_88 : decode cX7_ask 88 = .ok (.goto (-34), 3) := by decide +kernel
theorem dX7_ask_91 : decode cX7_ask 91 = .ok (.aload_n 0, 1) := by decide +kernel
theorem dX7_ask_92 : decode cX7_ask 92 = .ok (.getfield 24, 3) := by decide +kernel
theorem dX7_ask_95 : decode cX7_ask 95 = .ok (.iload_n 1, 1) := by decide +kernel
theorem dX7_ask_96 : decode cX7_ask 96 = .ok (.iconst 0, 1) := by decide +kernel
theorem dX7_ask_97 : decode cX7_ask 97 = .ok (.bastore, 1) := by decide +kernel
theorem dX7_ask_98 : decode cX7_ask 98 = .ok (.aload_n 0, 1) := by decide +kernel
theorem dX7_ask_99 : decode cX7_ask 99 = .ok (.getfield 42, 3) := by decide +kernel
theorem dX7_ask_102 : decode cX7_ask 102 = .ok (.ifCond .ne 17, 3) := by decide +kernel
theorem dX7_ask_105 : decode cX7_ask 105 = .ok (.aload_n 0, 1) := by decide +kernel
theorem dX7_ask_106 : decode cX7_ask 106 = .ok (.getfield 9, 3) := by decide +kernel
theorem dX7_ask_109 : decode cX7_ask 109 = .ok (.iload_n 1, 1) := by decide +kernel
theorem dX7_ask_110 : decode cX7_ask 110 = .ok (.iconst 0, 1) := by decide +kernel
theorem dX7_ask_111 : decode cX7_ask 111 = .ok (.iastore, 1) := by decide +kernel
theorem dX7_ask_112 : decode cX7_ask 112 = .ok (.aload_n 0, 1) := by decide +kernel
theorem dX7_ask_113 : decode cX7_ask 113 = .ok (.getfield 15, 3) := by decide +kernel
theorem dX7_ask_116 : decode cX7_ask 116 = .ok (.iload_n 1, 1) := by decide +kernel
theorem dX7_ask_117 : decode cX7_ask 117 = .ok (.iload_n 3, 1) := by decide +kernel
theorem dX7_ask_118 : decode cX7_ask 118 = .ok (.iastore, 1) := by decide +kernel
theorem dX7_ask_119 : decode cX7_ask 119 = .ok (.iload_n 3, 1) := by decide +kernel
theorem dX7_ask_120 : decode cX7_ask 120 = .ok (.ireturn, 1) := by decide +kernel
theorem dX7_addTerm_0 : decode cX7_addTerm 0 = .ok (.iload_n 2, 1) := by decide +kernel
theorem dX7_addTerm_1 : decode cX7_addTerm 1 = .ok (.invokestatic 69, 3) := by decide +kernel
theorem dX7_addTerm_4 : decode cX7_addTerm 4 = .ok (.iconst 1, 1) := by decide +kernel
theorem dX7_addTerm_5 : decode cX7_addTerm 5 = .ok (.if_icmp .ne 16, 3) := by decide +kernel
theorem dX7_addTerm_8 : decode cX7_addTerm 8 = .ok (.aload_n 0, 1) := by decide +kernel
theorem dX7_addTerm_9 : decode cX7_addTerm 9 = .ok (.iload_n 1, 1) := by decide +kernel
theorem dX7_addTerm_10 : decode cX7_addTerm 10 = .ok (.iload_n 2, 1) := by decide +kernel
theorem dX7_addTerm_11 : decode cX7_addTerm 11 = .ok (.invokestatic 75, 3) := by decide +kernel
theorem dX7_addTerm_14 : decode cX7_addTerm 14 = .ok (.iload_n 3, 1) := by decide +kernel
theorem dX7_addTerm_15 : decode cX7_addTerm 15 = .ok (.iload 4, 2) := by decide +kernel
theorem dX7_addTerm_17 : decode cX7_addTerm 17 = .ok (.invokevirtual 78, 3) := by decide +kernel
theorem dX7_addTerm_20 : decode cX7_addTerm 20 = .ok (.ireturn, 1) := by decide +kernel
theorem dX7_addTerm_21 : decode cX7_addTerm 21 = .ok (.iload_n 2, 1) := by decide +kernel
theorem dX7_addTerm_22 : decode cX7_addTerm 22 = .ok (.invokestatic 69, 3) := by decide +kernel
theorem dX7_addTerm_25 : decode cX7_addTerm 25 = .ok (.iconst 4, 1) := by decide +kernel
theorem dX7_addTerm_26 : decode cX7_addTerm 26 = .ok (.if_icmp .ne 11, 3) := by decide +kernel
theorem dX7_addTerm_29 : decode cX7_addTerm 29 = .ok (.aload_n 0, 1) := by decide +kernel
theorem dX7_addTerm_30 : decode cX7_addTerm 30 = .ok (.iconst 1, 1) := by decide +kernel
theorem dX7_addTerm_31 : decode cX7_addTerm 31 = .ok (.iload_n 3, 1) := by decide +kernel
theorem dX7_addTerm_32 : decode cX7_addTerm 32 = .ok (.iload 4, 2) := by decide +kernel
theorem dX7_addTerm_34 : decode cX7_addTerm 34 = .ok (.invokevirtual 56, 3) := by decide +kernel
theorem dX7_addTerm_37 : decode cX7_addTerm 37 = .ok (.iload_n 2, 1) := by decide +kernel
theorem dX7_addTerm_38 : decode cX7_addTerm 38 = .ok (.invokestatic 81, 3) := by decide +kernel
theorem dX7_addTerm_41 : decode cX7_addTerm 41 = .ok (.ifCond .ne 5, 3) := by decide +kernel
theorem dX7_addTerm_44 : decode cX7_addTerm 44 = .ok (.iload_n 1, 1) := by decide +kernel
theorem dX7_addTerm_45 : decode cX7_addTerm 45 = .ok (.ireturn, 1) := by decide +kernel
theorem dX7_addTerm_46 : decode cX7_addTerm 46 = .ok (.iload_n 1, 1) := by decide +kernel
theorem dX7_addTerm_47 : decode cX7_addTerm 47 = .ok (.istore 5, 2) := by decide +kernel
theorem dX7_addTerm_49 : decode cX7_addTerm 49 = .ok (.iload_n 2, 1) := by decide +kernel
theorem dX7_addTerm_50 : decode cX7_addTerm 50 = .ok (.iconst 1, 1) := by decide +kernel
theorem dX7_addTerm_51 : decode cX7_addTerm 51 = .ok (.invokestatic 84, 3) := by decide +kernel
theorem dX7_addTerm_54 : decode cX7_addTerm 54 = .ok (.istore 6, 2) := by decide +kernel
theorem dX7_addTerm_56 : decode cX7_addTerm 56 = .ok (.iload_n 2, 1) := by decide +kernel
theorem dX7_addTerm_57 : decode cX7_addTerm 57 = .ok (.iconst 0, 1) := by decide +kernel
theorem dX7_addTerm_58 : decode cX7_addTerm 58 = .ok (.invokestatic 84, 3) := by decide +kernel
theorem dX7_addTerm_61 : decode cX7_addTerm 61 = .ok (.istore 7, 2) := by decide +kernel
theorem dX7_addTerm_63 : decode cX7_addTerm 63 = .ok (.iload_n 2, 1) := by decide +kernel
theorem dX7_addTerm_64 : decode cX7_addTerm 64 = .ok (.iconst 1, 1) := by decide +kernel
theorem dX7_addTerm_65 : decode cX7_addTerm 65 = .ok (.invokestatic 87, 3) := by decide +kernel
theorem dX7_addTerm_68 : decode cX7_addTerm 68 = .ok (.istore 8, 2) := by decide +kernel
theorem dX7_addTerm_70 : decode cX7_addTerm 70 = .ok (.iload 8, 2) := by decide +kernel
theorem dX7_addTerm_72 : decode cX7_addTerm 72 = .ok (.iload 6, 2) := by decide +kernel
theorem dX7_addTerm_74 : decode cX7_addTerm 74 = .ok (.if_icmp .gt 87, 3) := by decide +kernel
theorem dX7_addTerm_77 : decode cX7_addTerm 77 = .ok (.aload_n 0, 1) := by decide +kernel
theorem dX7_addTerm_78 : decode cX7_addTerm 78 = .ok (.getfield 42, 3) := by decide +kernel
theorem dX7_addTerm_81 : decode cX7_addTerm 81 = .ok (.ifCond .ne 80, 3) := by decide +kernel
theorem dX7_addTerm_84 : decode cX7_addTerm 84 = .ok (.iload_n 2, 1) := by decide +kernel
theorem dX7_addTerm_85 : decode cX7_addTerm 85 = .ok (.iconst 0, 1) := by decide +kernel
theorem dX7_addTerm_86 : decode cX7_addTerm 86 = .ok (.invokestatic 87, 3) := by decide +kernel
theorem dX7_addTerm_89 : decode cX7_addTerm 89 = .ok (.istore 9, 2) := by decide +kernel
theorem dX7_addTerm_91 : decode cX7_addTerm 91 = .ok (.iload 9, 2) := by decide +kernel
theorem dX7_addTerm_93 : decode cX7_addTerm 93 = .ok (.iload 7, 2) := by decide +kernel
theorem dX7_addTerm_95 : decode cX7_addTerm 95 = .ok (.if_icmp .gt 60, 3) := by decide +kernel
theorem dX7_addTerm_98 : decode cX7_addTerm 98 = .ok (.aload_n 0, 1) := by decide +kernel
theorem dX7_addTerm_99 : decode cX7_addTerm 99 = .ok (.getfield 42, 3) := by decide +kernel
theorem dX7_addTerm_102 : decode cX7_addTerm 102 = .ok (.ifCond .ne 53, 3) := by decide +kernel
theorem dX7_addTerm_105 : decode cX7_addTerm 105 = .ok (.iload 9, 2) := by decide +kernel
theorem dX7_addTerm_107 : decode cX7_addTerm 107 = .ok (.iload 8, 2) := by decide +kernel
theorem dX7_addTerm_109 : decode cX7_addTerm 109 = .ok (.invokestatic 90, 3) := by decide +kernel
theorem dX7_addTerm_112 : decode cX7_addTerm 112 = .ok (.ifCond .eq 21, 3) := by decide +kernel
theorem dX7_addTerm_115 : decode cX7_addTerm 115 = .ok (.aload_n 0, 1) := by decide +kernel
theorem dX7_addTerm_116 : decode cX7_addTerm 116 = .ok (.iload 9, 2) := by decide +kernel
theorem dX7_addTerm_118 : decode cX7_addTerm 118 = .ok (.iload 8, 2) := by decide +kernel
theorem dX7_addTerm_120 : decode cX7_addTerm 120 = .ok (.invokestatic 94, 3) := by decide +kernel
theorem dX7_addTerm_123 : decode cX7_addTerm 123 = .ok (.iload 4, 2) := by decide +kernel
theorem dX7_addTerm_125 : decode cX7_addTerm 125 = .ok (.iconst 1, 1) := by decide +kernel
theorem dX7_addTerm_126 : decode cX7_addTerm 126 = .ok (.iadd, 1) := by decide +kernel
theorem dX7_addTerm_127 : decode cX7_addTerm 127 = .ok (.invokevirtual 46, 3) := by decide +kernel
theorem dX7_addTerm_130 : decode cX7_addTerm 130 = .ok (.goto 4, 3) := by decide +kernel
theorem dX7_addTerm_133 : decode cX7_addTerm 133 = .ok (.iconst 0, 1) := by decide +kernel
theorem dX7_addTerm_134 : decode cX7_addTerm 134 = .ok (.istore 10, 2) := by decide +kernel
theorem dX7_addTerm_136 : decode cX7_addTerm 136 = .ok (.aload_n 0, 1) := by decide +kernel
theorem dX7_addTerm_137 : decode cX7_addTerm 137 = .ok (.iload 5, 2) := by decide +kernel
theorem dX7_addTerm_139 : decode cX7_addTerm 139 = .ok (.iload 10, 2) := by decide +kernel
theorem dX7_addTerm_141 : decode cX7_addTerm 141 = .ok (.iload_n 3, 1) := by decide +kernel
theorem dX7_addTerm_142 : decode cX7_addTerm 142 = .ok (.iload 4, 2) := by decide +kernel
theorem dX7_addTerm_144 : decode cX7_addTerm 144 = .ok (.invokevirtual 78, 3) := by decide +kernel
theorem dX7_addTerm_147 : decode cX7_addTerm 147 = .ok (.istore 5, 2) := by decide +kernel
theorem dX7_addTerm_149 : decode cX7_addTerm 149 = .ok (.iinc 9 1, 3) := by decide +kernel
theorem dX7_addTerm_152 : decode cX7_addTerm 152 = .ok (.goto (-61), 3) := by decide +kernel
theorem dX7_addTerm_155 : decode cX7_addTerm 155 = .ok (.iinc 8 1, 3) := by decide +kernel
theorem dX7_addTerm_158 : decode cX7_addTerm 158 = .ok (.goto (-88), 3) := by decide +kernel
theorem dX7_addTerm_161 : decode cX7_addTerm 161 = .ok (.iload 5, 2) := by decide +kernel
theorem dX7_addTerm_163 : decode cX7_addTerm 163 = .ok (.ireturn, 1) := by decide +kernel
theorem dX7_add_0 : decode cX7_add 0 = .ok (.iload_n 1, 1) := by decide +kernel
theorem dX7_add_1 : decode cX7_add 1 = .ok (.iload_n 2, 1) := by decide +kernel
theorem dX7_add_2 : decode cX7_add 2 = .ok (.iadd, 1) := by decide +kernel
theorem dX7_add_3 : decode cX7_add 3 = .ok (.ldc 97, 2) := by decide +kernel
theorem dX7_add_5 : decode cX7_add 5 = .ok (.if_icmp .le 11, 3) := by decide +kernel
theorem dX7_add_8 : decode cX7_add 8 = .ok (.aload_n 0, 1) := by decide +kernel
theorem dX7_add_9 : decode cX7_add 9 = .ok (.iconst 3, 1) := by decide +kernel
theorem dX7_add_10 : decode cX7_add 10 = .ok (.iload_n 3, 1) := by decide +kernel
theorem dX7_add_11 : decode cX7_add 11 = .ok (.iload 4, 2) := by decide +kernel
theorem dX7_add_13 : decode cX7_add 13 = .ok (.invokevirtual 56, 3) := by decide +kernel
theorem dX7_add_16 : decode cX7_add 16 = .ok (.iload_n 1, 1) := by decide +kernel
theorem dX7_add_17 : decode cX7_add 17 = .ok (.iload_n 2, 1) := by decide +kernel
theorem dX7_add_18 : decode cX7_add 18 = .ok (.iadd, 1) := by decide +kernel
theorem dX7_add_19 : decode cX7_add 19 = .ok (.ireturn, 1) := by decide +kernel
theorem dX7_meet_0 : decode cX7_meet 0 = .ok (.aload_n 0, 1) := by decide +kernel
theorem dX7_meet_1 : decode cX7_meet 1 = .ok (.getfield 42, 3) := by decide +kernel
theorem dX7_meet_4 : decode cX7_meet 4 = .ok (.ifCond .ne 18, 3) := by decide +kernel
theorem dX7_meet_7 : decode cX7_meet 7 = .ok (.aload_n 0, 1) := by decide +kernel
theorem dX7_meet_8 : decode cX7_meet 8 = .ok (.iload_n 1, 1) := by decide +kernel
theorem dX7_meet_9 : decode cX7_meet 9 = .ok (.putfield 42, 3) := by decide +kernel
theorem dX7_meet_12 : decode cX7_meet 12 = .ok (.aload_n 0, 1) := by decide +kernel
theorem dX7_meet_13 : decode cX7_meet 13 = .ok (.iload_n 2, 1) := by decide +kernel
theorem dX7_meet_14 : decode cX7_meet 14 = .ok (.putfield 50, 3) := by decide +kernel
theorem dX7_meet_17 : decode cX7_meet 17 = .ok (.aload_n 0, 1) := by decide +kernel
theorem dX7_meet_18 : decode cX7_meet 18 = .ok (.iload_n 3, 1) := by decide +kernel
theorem dX7_meet_19 : decode cX7_meet 19 = .ok (.putfield 53, 3) := by decide +kernel
theorem dX7_meet_22 : decode cX7_meet 22 = .ok (.return_, 1) := by decide +kernel
theorem dX8_init_0 : decode cX8_init 0 = .ok (.aload_n 0, 1) := by decide +kernel
theorem dX8_init_1 : decode cX8_init 1 = .ok (.invokespecial 3, 3) := by decide +kernel
theorem dX8_init_4 : decode cX8_init 4 = .ok (.aload_n 0, 1) := by decide +kernel
theorem dX8_init_5 : decode cX8_init 5 = .ok (.new 9, 3) := by decide +kernel
theorem dX8_init_8 : decode cX8_init 8 = .ok (.dup, 1) := by decide +kernel
theorem dX8_init_9 : decode cX8_init 9 = .ok (.invokespecial 11, 3) := by decide +kernel
theorem dX8_init_12 : decode cX8_init 12 = .ok (.putfield 12, 3) := by decide +kernel
theorem dX8_init_15 : decode cX8_init 15 = .ok (.aload_n 0, 1) := by decide +kernel
theorem dX8_init_16 : decode cX8_init 16 = .ok (.new 16, 3) := by decide +kernel
theorem dX8_init_19 : decode cX8_init 19 = .ok (.dup, 1) := by decide +kernel
theorem dX8_init_20 : decode cX8_init 20 = .ok (.aload_n 0, 1) := by decide +kernel
theorem dX8_init_21 : decode cX8_init 21 = .ok (.getfield 12, 3) := by decide +kernel
theorem dX8_init_24 : decode cX8_init 24 = .ok (.invokespecial 18, 3) := by decide +kernel
theorem dX8_init_27 : decode cX8_init 27 = .ok (.putfield 21, 3) := by decide +kernel
theorem dX8_init_30 : decode cX8_init 30 = .ok (.aload_n 0, 1) := by decide +kernel
theorem dX8_init_31 : decode cX8_init 31 = .ok (.new 25, 3) := by decide +kernel
theorem dX8_init_34 : decode cX8_init 34 = .ok (.dup, 1) := by decide +kernel
theorem dX8_init_35 : decode cX8_init 35 = .ok (.invokespecial 27, 3) := by decide +kernel
theorem dX8_init_38 : decode cX8_init 38 = .ok (.putfield 28, 3) := by decide +kernel
theorem dX8_init_41 : decode cX8_init 41 = .ok (.aload_n 0, 1) := by decide +kernel
theorem dX8_init_42 : decode cX8_init 42 = .ok (.new 32, 3) := by decide +kernel
theorem dX8_init_45 : decode cX8_init 45 = .ok (.dup, 1) := by decide +kernel
theorem dX8_init_46 : decode cX8_init 46 = .ok (.invokespecial 34, 3) := by decide +kernel
theorem dX8_init_49 : decode cX8_init 49 = .ok (.putfield 35, 3) := by decide +kernel
theorem dX8_init_52 : decode cX8_init 52 = .ok (.aload_n 0, 1) := by decide +kernel
theorem dX8_init_53 : decode cX8_init 53 = .ok (.new 39, 3) := by decide +kernel
theorem dX8_init_56 : decode cX8_init 56 = .ok (.dup, 1) := by decide +kernel
theorem dX8_init_57 : decode cX8_init 57 = .ok (.aload_n 0, 1) := by decide +kernel
theorem dX8_init_58 : decode cX8_init 58 = .ok (.getfield 28, 3) := by decide +kernel
theorem dX8_init_61 : decode cX8_init 61 = .ok (.invokespecial 41, 3) := by decide +kernel
theorem dX8_init_64 : decode cX8_init 64 = .ok (.putfield 44, 3) := by decide +kernel
theorem dX8_init_67 : decode cX8_init 67 = .ok (.aload_n 0, 1) := by decide +kernel
theorem dX8_init_68 : decode cX8_init 68 = .ok (.new 48, 3) := by decide +kernel
theorem dX8_init_71 : decode cX8_init 71 = .ok (.dup, 1) := by decide +kernel
theorem dX8_init_72 : decode cX8_init 72 = .ok (.invokespecial 50, 3) := by decide +kernel
theorem dX8_init_75 : decode cX8_init 75 = .ok (.putfield 51, 3) := by decide +kernel
theorem dX8_init_78 : decode cX8_init 78 = .ok (.return_, 1) := by decide +kernel
theorem dX8_type_0 : decode cX8_type 0 = .ok (.iload_n 1, 1) := by decide +kernel
theorem dX8_type_1 : decode cX8_type 1 = .ok (.iconst 0, 1) := by decide +kernel
theorem dX8_type_2 : decode cX8_type 2 = .ok (.bipush 127, 2) := by decide +kernel
theorem dX8_type_4 : decode cX8_type 4 = .ok (.invokestatic 55, 3) := by decide +kernel
theorem dX8_type_7 : decode cX8_type 7 = .ok (.ifCond .ne 10, 3) := by decide +kernel
theorem dX8_type_10 : decode cX8_type 10 = .ok (.aload_n 0, 1) := by decide +kernel
theorem dX8_type_11 : decode cX8_type 11 = .ok (.bipush (-2), 2) := by decide +kernel
theorem dX8_type_13 : decode cX8_type 13 = .ok (.invokevirtual 59, 3) := by decide +kernel
theorem dX8_type_16 : decode cX8_type 16 = .ok (.ireturn, 1) := by decide +kernel
theorem dX8_type_17 : decode cX8_type 17 = .ok (.aload_n 0, 1) := by decide +kernel
theorem dX8_type_18 : decode cX8_type 18 = .ok (.getfield 12, 3) := by decide +kernel
theorem dX8_type_21 : decode cX8_type 21 = .ok (.invokevirtual 63, 3) := by decide +kernel
theorem dX8_type_24 : decode cX8_type 24 = .ok (.ifCond .eq 10, 3) := by decide +kernel
theorem dX8_type_27 : decode cX8_type 27 = .ok (.aload_n 0, 1) := by decide +kernel
theorem dX8_type_28 : decode cX8_type 28 = .ok (.bipush (-4), 2) := by decide +kernel
theorem dX8_type_30 : decode cX8_type 30 = .ok (.invokevirtual 59, 3) := by decide +kernel
theorem dX8_type_33 : decode cX8_type 33 = .ok (.ireturn, 1) := by decide +kernel
theorem dX8_type_34 : decode cX8_type 34 = .ok (.aload_n 0, 1) := by decide +kernel
theorem dX8_type_35 : decode cX8_type 35 = .ok (.getfield 12, 3) := by decide +kernel
theorem dX8_type_38 : decode cX8_type 38 = .ok (.iload_n 1, 1) := by decide +kernel
theorem dX8_type_39 : decode cX8_type 39 = .ok (.invokevirtual 67, 3) := by decide +kernel
theorem dX8_type_42 : decode cX8_type 42 = .ok (.ireturn, 1) := by decide +kernel
theorem dX8_clear_0 : decode cX8_clear 0 = .ok (.aload_n 0, 1) := by decide +kernel
theorem dX8_clear_1 : decode cX8_clear 1 = .ok (.getfield 12, 3) := by decide +kernel
theorem dX8_clear_4 : decode cX8_clear 4 = .ok (.invokevirtual 70, 3) := by decide +kernel
theorem dX8_clear_7 : decode cX8_clear 7 = .ok (.ireturn, 1) := by decide +kernel
theorem dX8_put_0 : decode cX8_put 0 = .ok (.iload_n 1, 1) := by decide +kernel
theorem dX8_put_1 : decode cX8_put 1 = .ok (.iload_n 2, 1) := by decide +kernel
theorem dX8_put_2 : decode cX8_put 2 = .ok (.invokestatic 74, 3) := by decide +kernel
theorem dX8_put_5 : decode cX8_put 5 = .ok (.ifCond .ne 10, 3) := by decide +kernel
theorem dX8_put_8 : decode cX8_put 8 = .ok (.aload_n 0, 1) := by decide +kernel
theorem dX8_put_9 : decode cX8_put 9 = .ok (.bipush (-2), 2) := by decide +kernel
theorem dX8_put_11 : decode cX8_put 11 = .ok (.invokevirtual 59, 3) := by decide +kernel
theorem dX8_put_14 : decode cX8_put 14 = .ok (.ireturn, 1) := by decide +kernel
theorem dX8_put_15 : decode cX8_put 15 = .ok (.aload_n 0, 1) := by decide +kernel
theorem dX8_put_16 : decode cX8_put 16 = .ok (.getfield 21, 3) := by decide +kernel
theorem dX8_put_19 : decode cX8_put 19 = .ok (.invokevirtual 78, 3) := by decide +kernel
theorem dX8_put_22 : decode cX8_put 22 = .ok (.istore_n 3, 1) := by decide +kernel
theorem dX8_put_23 : decode cX8_put 23 = .ok (.iload_n 3, 1) := by decide +kernel
theorem dX8_put_24 : decode cX8_put 24 = .ok (.ifCond .ne 14, 3) := by decide +kernel
theorem dX8_put_27 : decode cX8_put 27 = .ok (.bipush (-10), 2) := by decide +kernel
theorem dX8_put_29 : decode cX8_put 29 = .ok (.aload_n 0, 1) := by decide +kernel
theorem dX8_put_30 : decode cX8_put 30 = .ok (.getfield 21, 3) := by decide +kernel
theorem dX8_put_33 : decode cX8_put 33 = .ok (.invokevirtual 81, 3) := by decide +kernel
theorem dX8_put_36 : decode cX8_put 36 = .ok (.isub, 1) := by decide +kernel
theorem dX8_put_37 : decode cX8_put 37 = .ok (.ireturn, 1) := by decide +kernel
theorem dX8_put_38 : decode cX8_put 38 = .ok (.aload_n 0, 1) := by decide +kernel
theorem dX8_put_39 : decode cX8_put 39 = .ok (.invokevirtual 84, 3) := by decide +kernel
theorem dX8_put_42 : decode cX8_put 42 = .ok (.aload_n 0, 1) := by decide +kernel
theorem dX8_put_43 : decode cX8_put 43 = .ok (.getfield 28, 3) := by decide +kernel
theorem dX8_put_46 : decode cX8_put 46 = .ok (.iload_n 1, 1) := by decide +kernel
theorem dX8_put_47 : decode cX8_put 47 = .ok (.iload_n 2, 1) := by decide +kernel
theorem dX8_put_48 : decode cX8_put 48 = .ok (.invokestatic 87, 3) := by decide +kernel
theorem dX8_put_51 : decode cX8_put 51 = .ok (.aload_n 0, 1) := by decide +kernel
theorem dX8_put_52 : decode cX8_put 52 = .ok (.getfield 21, 3) := by decide +kernel
theorem dX8_put_55 : decode cX8_put 55 = .ok (.getfield 91, 3) := by decide +kernel
theorem dX8_put_58 : decode cX8_put 58 = .ok (.invokevirtual 95, 3) := by decide +kernel
theorem dX8_put_61 : decode cX8_put 61 = .ok (.iload_n 3, 1) := by decide +kernel
theorem dX8_put_62 : decode cX8_put 62 = .ok (.ireturn, 1) := by decide +kernel
theorem dX8_empties_0 : decode cX8_empties 0 = .ok (.iload_n 1, 1) := by decide +kernel
theorem dX8_empties_1 : decode cX8_empties 1 = .ok (.iload_n 2, 1) := by decide +kernel
theorem dX8_empties_2 : decode cX8_empties 2 = .ok (.invokestatic 74, 3) := by decide +kernel
theorem dX8_empties_5 : decode cX8_empties 5 = .ok (.ifCond .ne 10, 3) := by decide +kernel
theorem dX8_empties_8 : decode cX8_empties 8 = .ok (.aload_n 0, 1) := by decide +kernel
theorem dX8_empties_9 : decode cX8_empties 9 = .ok (.bipush (-2), 2) := by decide +kernel
theorem dX8_empties_11 : decode cX8_empties 11 = .ok (.invokevirtual 59, 3) := by decide +kernel
theorem dX8_empties_14 : decode cX8_empties 14 = .ok (.ireturn, 1) := by decide +kernel
theorem dX8_empties_15 : decode cX8_empties 15 = .ok (.aload_n 0, 1) := by decide +kernel
theorem dX8_empties_16 : decode cX8_empties 16 = .ok (.invokevirtual 84, 3) := by decide +kernel
theorem dX8_empties_19 : decode cX8_empties 19 = .ok (.aload_n 0, 1) := by decide +kernel
theorem dX8_empties_20 : decode cX8_empties 20 = .ok (.getfield 28, 3) := by decide +kernel
theorem dX8_empties_23 : decode cX8_empties 23 = .ok (.iload_n 1, 1) := by decide +kernel
theorem dX8_empties_24 : decode cX8_empties 24 = .ok (.iload_n 2, 1) := by decide +kernel
theorem dX8_empties_25 : decode cX8_empties 25 = .ok (.invokestatic 87, 3) := by decide +kernel
theorem dX8_empties_28 : decode cX8_empties 28 = .ok (.invokevirtual 99, 3) := by decide +kernel
theorem dX8_empties_31 : decode cX8_empties 31 = .ok (.istore_n 3, 1) := by decide +kernel
theorem dX8_empties_32 : decode cX8_empties 32 = .ok (.aload_n 0, 1) := by decide +kernel
theorem dX8_empties_33 : decode cX8_empties 33 = .ok (.getfield 28, 3) := by decide +kernel
theorem dX8_empties_36 : decode cX8_empties 36 = .ok (.iload_n 1, 1) := by decide +kernel
theorem dX8_empties_37 : decode cX8_empties 37 = .ok (.iload_n 2, 1) := by decide +kernel
theorem dX8_empties_38 : decode cX8_empties 38 = .ok (.invokestatic 87, 3) := by decide +kernel
theorem dX8_empties_41 : decode cX8_empties 41 = .ok (.invokevirtual 102, 3) := by decide +kernel
theorem dX8_empties_44 : decode cX8_empties 44 = .ok (.iload_n 3, 1) := by decide +kernel
theorem dX8_empties_45 : decode cX8_empties 45 = .ok (.ireturn, 1) := by decide +kernel
theorem dX8_comes_0 : decode cX8_comes 0 = .ok (.iload_n 1, 1) := by decide +kernel
theorem dX8_comes_1 : decode cX8_comes 1 = .ok (.iconst 0, 1) := by decide +kernel
theorem dX8_comes_2 : decode cX8_comes 2 = .ok (.iconst 1, 1) := by decide +kernel
theorem dX8_comes_3 : decode cX8_comes 3 = .ok (.invokestatic 55, 3) := by decide +kernel
theorem dX8_comes_6 : decode cX8_comes 6 = .ok (.ifCond .eq 22, 3) := by decide +kernel
theorem dX8_comes_9 : decode cX8_comes 9 = .ok (.iload_n 2, 1) := by decide +kernel
theorem dX8_comes_10 : decode cX8_comes 10 = .ok (.iconst 0, 1) := by decide +kernel
theorem dX8_comes_11 : decode cX8_comes 11 = .ok (.iconst 5, 1) := by decide +kernel
theorem dX8_comes_12 : decode cX8_comes 12 = .ok (.invokestatic 55, 3) := by decide +kernel
theorem dX8_comes_15 : decode cX8_comes 15 = .ok (.ifCond .eq 13, 3) := by decide +kernel
theorem dX8_comes_18 : decode cX8_comes 18 = .ok (.iload_n 3, 1) := by decide +kernel
theorem dX8_comes_19 : decode cX8_comes 19 = .ok (.iconst 1, 1) := by decide +kernel
theorem dX8_comes_20 : decode cX8_comes 20 = .ok (.bipush 6, 2) := by decide +kernel
theorem dX8_comes_22 : decode cX8_comes 22 = .ok (.invokestatic 55, 3) := by decide +kernel
theorem dX8_comes_25 : decode cX8_comes 25 = .ok (.ifCond .ne 10, 3) := by decide +kernel
theorem dX8_comes_28 : decode cX8_comes 28 = .ok (.aload_n 0, 1) := by decide +kernel
theorem dX8_comes_29 : decode cX8_comes 29 = .ok (.bipush (-2), 2) := by decide +kernel
theorem dX8_comes_31 : decode cX8_comes 31 = .ok (.invokevirtual 59, 3) := by decide +kernel
theorem dX8_comes_34 : decode cX8_comes 34 = .ok (.ireturn, 1) := by decide +kernel
theorem dX8_comes_35 : decode cX8_comes 35 = .ok (.iload_n 1, 1) := by decide +kernel
theorem dX8_comes_36 : decode cX8_comes 36 = .ok (.invokestatic 105, 3) := by decide +kernel
theorem dX8_comes_39 : decode cX8_comes 39 = .ok (.istore 4, 2) := by decide +kernel
theorem dX8_comes_41 : decode cX8_comes 41 = .ok (.aload_n 0, 1) := by decide +kernel
theorem dX8_comes_42 : decode cX8_comes 42 = .ok (.getfield 28, 3) := by decide +kernel
theorem dX8_comes_45 : decode cX8_comes 45 = .ok (.iload 4, 2) := by decide +kernel
theorem dX8_comes_47 : decode cX8_comes 47 = .ok (.iload_n 2, 1) := by decide +kernel
theorem dX8_comes_48 : decode cX8_comes 48 = .ok (.iload_n 3, 1) := by decide +kernel
theorem dX8_comes_49 : decode cX8_comes 49 = .ok (.invokevirtual 108, 3) := by decide +kernel
theorem dX8_comes_52 : decode cX8_comes 52 = .ok (.ifCond .eq 10, 3) := by decide +kernel
theorem dX8_comes_55 : decode cX8_comes 55 = .ok (.aload_n 0, 1) := by decide +kernel
theorem dX8_comes_56 : decode cX8_comes 56 = .ok (.bipush (-3), 2) := by decide +kernel
theorem dX8_comes_58 : decode cX8_comes 58 = .ok (.invokevirtual 59, 3) := by decide +kernel
theorem dX8_comes_61 : decode cX8_comes 61 = .ok (.ireturn, 1) := by decide +kernel
theorem dX8_comes_62 : decode cX8_comes 62 = .ok (.aload_n 0, 1) := by decide +kernel
theorem dX8_comes_63 : decode cX8_comes 63 = .ok (.invokevirtual 84, 3) := by decide +kernel
theorem dX8_comes_66 : decode cX8_comes 66 = .ok (.aload_n 0, 1) := by decide +kernel
theorem dX8_comes_67 : decode cX8_comes 67 = .ok (.getfield 28, 3) := by decide +kernel
theorem dX8_comes_70 : decode cX8_comes 70 = .ok (.iload 4, 2) := by decide +kernel
theorem dX8_comes_72 : decode cX8_comes 72 = .ok (.iload_n 2, 1) := by decide +kernel
theorem dX8_comes_73 : decode cX8_comes 73 = .ok (.iload_n 3, 1) := by decide +kernel
theorem dX8_comes_74 : decode cX8_comes 74 = .ok (.invokevirtual 111, 3) := by decide +kernel
theorem dX8_comes_77 : decode cX8_comes 77 = .ok (.aload_n 0, 1) := by decide +kernel
theorem dX8_comes_78 : decode cX8_comes 78 = .ok (.getfield 28, 3) := by decide +kernel
theorem dX8_comes_81 : decode cX8_comes 81 = .ok (.invokevirtual 115, 3) := by decide +kernel
theorem dX8_comes_84 : decode cX8_comes 84 = .ok (.ireturn, 1) := by decide +kernel
theorem dX8_goes_0 : decode cX8_goes 0 = .ok (.iload_n 1, 1) := by decide +kernel
theorem dX8_goes_1 : decode cX8_goes 1 = .ok (.iconst 0, 1) := by decide +kernel
theorem dX8_goes_2 : decode cX8_goes 2 = .ok (.iconst 1, 1) := by decide +kernel
theorem dX8_goes_3 : decode cX8_goes 3 = .ok (.invokestatic 55, 3) := by decide +kernel
theorem dX8_goes_6 : decode cX8_goes 6 = .ok (.ifCond .eq 24, 3) := by decide +kernel
theorem dX8_goes_9 : decode cX8_goes 9 = .ok (.iload_n 2, 1) := by decide +kernel
theorem dX8_goes_10 : decode cX8_goes 10 = .ok (.iconst 0, 1) := by decide +kernel
theorem dX8_goes_11 : decode cX8_goes 11 = .ok (.iconst 5, 1) := by decide +kernel
theorem dX8_goes_12 : decode cX8_goes 12 = .ok (.invokestatic 55, 3) := by decide +kernel
theorem dX8_goes_15 : decode cX8_goes 15 = .ok (.ifCond .eq 15, 3) := by decide +kernel
theorem dX8_goes_18 : decode cX8_goes 18 = .ok (.iload_n 3, 1) := by decide +kernel
theorem dX8_goes_19 : decode cX8_goes 19 = .ok (.iconst 1, 1) := by decide +kernel
theorem dX8_goes_20 : decode cX8_goes 20 = .ok (.bipush 6, 2) := by decide +kernel
theorem dX8_goes_22 : decode cX8_goes 22 = .ok (.iload_n 2, 1) := by decide +kernel
theorem dX8_goes_23 : decode cX8_goes 23 = .ok (.isub, 1) := by decide +kernel
theorem dX8_goes_24 : decode cX8_goes 24 = .ok (.invokestatic 55, 3) := by decide +kernel
theorem dX8_goes_27 : decode cX8_goes 27 = .ok (.ifCond .ne 10, 3) := by decide +kernel
theorem dX8_goes_30 : decode cX8_goes 30 = .ok (.aload_n 0, 1) := by decide +kernel
theorem dX8_goes_31 : decode cX8_goes 31 = .ok (.bipush (-2), 2) := by decide +kernel
theorem dX8_goes_33 : decode cX8_goes 33 = .ok (.invokevirtual 59, 3) := by decide +kernel
theorem dX8_goes_36 : decode cX8_goes 36 = .ok (.ireturn, 1) := by decide +kernel
theorem dX8_goes_37 : decode cX8_goes 37 = .ok (.aload_n 0, 1) := by decide +kernel
theorem dX8_goes_38 : decode cX8_goes 38 = .ok (.invokevirtual 84, 3) := by decide +kernel
theorem dX8_goes_41 : decode cX8_goes 41 = .ok (.aload_n 0, 1) := by decide +kernel
theorem dX8_goes_42 : decode cX8_goes 42 = .ok (.getfield 28, 3) := by decide +kernel
theorem dX8_goes_45 : decode cX8_goes 45 = .ok (.iload_n 1, 1) := by decide +kernel
theorem dX8_goes_46 : decode cX8_goes 46 = .ok (.invokestatic 105, 3) := by decide +kernel
theorem dX8_goes_49 : decode cX8_goes 49 = .ok (.iload_n 2, 1) := by decide +kernel
theorem dX8_goes_50 : decode cX8_goes 50 = .ok (.iload_n 3, 1) := by decide +kernel
theorem dX8_goes_51 : decode cX8_goes 51 = .ok (.invokevirtual 118, 3) := by decide +kernel
theorem dX8_goes_54 : decode cX8_goes 54 = .ok (.aload_n 0, 1) := by decide +kernel
theorem dX8_goes_55 : decode cX8_goes 55 = .ok (.getfield 28, 3) := by decide +kernel
theorem dX8_goes_58 : decode cX8_goes 58 = .ok (.invokevirtual 115, 3) := by decide +kernel
theorem dX8_goes_61 : decode cX8_goes 61 = .ok (.ireturn, 1) := by decide +kernel
theorem dX8_moves_0 : decode cX8_moves 0 = .ok (.iload_n 1, 1) := by decide +kernel
theorem dX8_moves_1 : decode cX8_moves 1 = .ok (.iload_n 2, 1) := by decide +kernel
theorem dX8_moves_2 : decode cX8_moves 2 = .ok (.iload_n 3, 1) := by decide +kernel
theorem dX8_moves_3 : decode cX8_moves 3 = .ok (.iload 4, 2) := by decide +kernel
theorem dX8_moves_5 : decode cX8_moves 5 = .ok (.invokestatic 121, 3) := by decide +kernel
theorem dX8_moves_8 : decode cX8_moves 8 = .ok (.ifCond .eq 16, 3) := by decide +kernel
theorem dX8_moves_11 : decode cX8_moves 11 = .ok (.iload 5, 2) := by decide +kernel
theorem dX8_moves_13 : decode cX8_moves 13 = .ok (.iload 6, 2) := by decide +kernel
theorem dX8_moves_15 : decode cX8_moves 15 = .ok (.iload_n 3, 1) := by decide +kernel
theorem dX8_moves_16 : decode cX8_moves 16 = .ok (.iload 4, 2) := by decide +kernel
theorem dX8_moves_18 : decode cX8_moves 18 = .ok (.invokestatic 121, 3) := by decide +kernel
theorem dX8_moves_21 : decode cX8_moves 21 = .ok (.ifCond .ne 10, 3) := by decide +kernel
theorem dX8_moves_24 : decode cX8_moves 24 = .ok (.aload_n 0, 1) := by decide +kernel
theorem dX8_moves_25 : decode cX8_moves 25 = .ok (.bipush (-2), 2) := by decide +kernel
theorem dX8_moves_27 : decode cX8_moves 27 = .ok (.invokevirtual 59, 3) := by decide +kernel
theorem dX8_moves_30 : decode cX8_moves 30 = .ok (.ireturn, 1) := by decide +kernel
theorem dX8_moves_31 : decode cX8_moves 31 = .ok (.aload_n 0, 1) := by decide +kernel
theorem dX8_moves_32 : decode cX8_moves 32 = .ok (.invokevirtual 84, 3) := by decide +kernel
theorem dX8_moves_35 : decode cX8_moves 35 = .ok (.aload_n 0, 1) := by decide +kernel
theorem dX8_moves_36 : decode cX8_moves 36 = .ok (.getfield 28, 3) := by decide +kernel
theorem dX8_moves_39 : decode cX8_moves 39 = .ok (.new 125, 3) := by decide +kernel
theorem dX8_moves_42 : decode cX8_moves 42 = .ok (.dup, 1) := by decide +kernel
theorem dX8_moves_43 : decode cX8_moves 43 = .ok (.iload_n 1, 1) := by decide +kernel
theorem dX8_moves_44 : decode cX8_moves 44 = .ok (.iload_n 2, 1) := by decide +kernel
theorem dX8_moves_45 : decode cX8_moves 45 = .ok (.iload_n 3, 1) := by decide +kernel
theorem dX8_moves_46 : decode cX8_moves 46 = .ok (.iload 4, 2) := by decide +kernel
theorem dX8_moves_48 : decode cX8_moves 48 = .ok (.invokespecial 127, 3) := by decide +kernel
theorem dX8_moves_51 : decode cX8_moves 51 = .ok (.new 125, 3) := by decide +kernel
theorem dX8_moves_54 : decode cX8_moves 54 = .ok (.dup, 1) := by decide +kernel
theorem dX8_moves_55 : decode cX8_moves 55 = .ok (.iload 5, 2) := by decide +kernel
theorem dX8_moves_57 : decode cX8_moves 57 = .ok (.iload 6, 2) := by decide +kernel
theorem dX8_moves_59 : decode cX8_moves 59 = .ok (.iload_n 3, 1) := by decide +kernel
theorem dX8_moves_60 : decode cX8_moves 60 = .ok (.iload 4, 2) := by decide +kernel
theorem dX8_moves_62 : decode cX8_moves 62 = .ok (.invokespecial 127, 3) := by decide +kernel
theorem dX8_moves_65 : decode cX8_moves 65 = .ok (.invokevirtual 130, 3) := by decide +kernel
theorem dX8_moves_68 : decode cX8_moves 68 = .ok (.ireturn, 1) := by decide +kernel
theorem dX8_copies_0 : decode cX8_copies 0 = .ok (.iload_n 1, 1) := by decide +kernel
theorem dX8_copies_1 : decode cX8_copies 1 = .ok (.iload_n 2, 1) := by decide +kernel
theorem dX8_copies_2 : decode cX8_copies 2 = .ok (.iload_n 3, 1) := by decide +kernel
theorem dX8_copies_3 : decode cX8_copies 3 = .ok (.iload 4, 2) := by decide +kernel
theorem dX8_copies_5 : decode cX8_copies 5 = .ok (.invokestatic 121, 3) := by decide +kernel
theorem dX8_copies_8 : decode cX8_copies 8 = .ok (.ifCond .eq 16, 3) := by decide +kernel
theorem dX8_copies_11 : decode cX8_copies 11 = .ok (.iload 5, 2) := by decide +kernel
theorem dX8_copies_13 : decode cX8_copies 13 = .ok (.iload 6, 2) := by decide +kernel
theorem dX8_copies_15 : decode cX8_copies 15 = .ok (.iload_n 3, 1) := by decide +kernel
theorem dX8_copies_16 : decode cX8_copies 16 = .ok (.iload 4, 2) := by decide +kernel
theorem dX8_copies_18 : decode cX8_copies 18 = .ok (.invokestatic 121, 3) := by decide +kernel
theorem dX8_copies_21 : decode cX8_copies 21 = .ok (.ifCond .ne 10, 3) := by decide +kernel
theorem dX8_copies_24 : decode cX8_copies 24 = .ok (.aload_n 0, 1) := by decide +kernel
theorem dX8_copies_25 : decode cX8_copies 25 = .ok (.bipush (-2), 2) := by decide +kernel
theorem dX8_copies_27 : decode cX8_copies 27 = .ok (.invokevirtual 59, 3) := by decide +kernel
theorem dX8_copies_30 : decode cX8_copies 30 = .ok (.ireturn, 1) := by decide +kernel
theorem dX8_copies_31 : decode cX8_copies 31 = .ok (.aload_n 0, 1) := by decide +kernel
theorem dX8_copies_32 : decode cX8_copies 32 = .ok (.invokevirtual 84, 3) := by decide +kernel
theorem dX8_copies_35 : decode cX8_copies 35 = .ok (.aload_n 0, 1) := by decide +kernel
theorem dX8_copies_36 : decode cX8_copies 36 = .ok (.getfield 28, 3) := by decide +kernel
theorem dX8_copies_39 : decode cX8_copies 39 = .ok (.new 125, 3) := by decide +kernel
theorem dX8_copies_42 : decode cX8_copies 42 = .ok (.dup, 1) := by decide +kernel
theorem dX8_copies_43 : decode cX8_copies 43 = .ok (.iload_n 1, 1) := by decide +kernel
theorem dX8_copies_44 : decode cX8_copies 44 = .ok (.iload_n 2, 1) := by decide +kernel
theorem dX8_copies_45 : decode cX8_copies 45 = .ok (.iload_n 3, 1) := by decide +kernel
theorem dX8_copies_46 : decode cX8_copies 46 = .ok (.iload 4, 2) := by decide +kernel
theorem dX8_copies_48 : decode cX8_copies 48 = .ok (.invokespecial 127, 3) := by decide +kernel
theorem dX8_copies_51 : decode cX8_copies 51 = .ok (.new 125, 3) := by decide +kernel
theorem dX8_copies_54 : decode cX8_copies 54 = .ok (.dup, 1) := by decide +kernel
theorem dX8_copies_55 : decode cX8_copies 55 = .ok (.iload 5, 2) := by decide +kernel
theorem dX8_copies_57 : decode cX8_copies 57 = .ok (.iload 6, 2) := by decide +kernel
theorem dX8_copies_59 : decode cX8_copies 59 = .ok (.iload_n 3, 1) := by decide +kernel
theorem dX8_copies_60 : decode cX8_copies 60 = .ok (.iload 4, 2) := by decide +kernel
theorem dX8_copies_62 : decode cX8_copies 62 = .ok (.invokespecial 127, 3) := by decide +kernel
theorem dX8_copies_65 : decode cX8_copies 65 = .ok (.invokevirtual 134, 3) := by decide +kernel
theorem dX8_copies_68 : decode cX8_copies 68 = .ok (.ireturn, 1) := by decide +kernel
theorem dX8_back_0 : decode cX8_back 0 = .ok (.aload_n 0, 1) := by decide +kernel
theorem dX8_back_1 : decode cX8_back 1 = .ok (.getfield 35, 3) := by decide +kernel
theorem dX8_back_4 : decode cX8_back 4 = .ok (.getfield 137, 3) := by decide +kernel
theorem dX8_back_7 : decode cX8_back 7 = .ok (.ifCond .ne 10, 3) := by decide +kernel
theorem dX8_back_10 : decode cX8_back 10 = .ok (.aload_n 0, 1) := by decide +kernel
theorem dX8_back_11 : decode cX8_back 11 = .ok (.bipush (-3), 2) := by decide +kernel
theorem dX8_back_13 : decode cX8_back 13 = .ok (.invokevirtual 59, 3) := by decide +kernel
theorem dX8_back_16 : decode cX8_back 16 = .ok (.ireturn, 1) := by decide +kernel
theorem dX8_back_17 : decode cX8_back 17 = .ok (.aload_n 0, 1) := by decide +kernel
theorem dX8_back_18 : decode cX8_back 18 = .ok (.getfield 35, 3) := by decide +kernel
theorem dX8_back_21 : decode cX8_back 21 = .ok (.aload_n 0, 1) := by decide +kernel
theorem dX8_back_22 : decode cX8_back 22 = .ok (.getfield 28, 3) := by decide +kernel
theorem dX8_back_25 : decode cX8_back 25 = .ok (.invokevirtual 141, 3) := by decide +kernel
theorem dX8_back_28 : decode cX8_back 28 = .ok (.aload_n 0, 1) := by decide +kernel
theorem dX8_back_29 : decode cX8_back 29 = .ok (.getfield 44, 3) := by decide +kernel
theorem dX8_back_32 : decode cX8_back 32 = .ok (.invokevirtual 144, 3) := by decide +kernel
theorem dX8_back_35 : decode cX8_back 35 = .ok (.aload_n 0, 1) := by decide +kernel
theorem dX8_back_36 : decode cX8_back 36 = .ok (.getfield 35, 3) := by decide +kernel
theorem dX8_back_39 : decode cX8_back 39 = .ok (.getfield 137, 3) := by decide +kernel
theorem dX8_back_42 : decode cX8_back 42 = .ok (.ireturn, 1) := by decide +kernel
theorem dX8_terms_0 : decode cX8_terms 0 = .ok (.iload_n 1, 1) := by decide +kernel
theorem dX8_terms_1 : decode cX8_terms 1 = .ok (.iload_n 2, 1) := by decide +kernel
theorem dX8_terms_2 : decode cX8_terms 2 = .ok (.invokestatic 74, 3) := by decide +kernel
theorem dX8_terms_5 : decode cX8_terms 5 = .ok (.ifCond .ne 10, 3) := by decide +kernel
theorem dX8_terms_8 : decode cX8_terms 8 = .ok (.aload_n 0, 1) := by decide +kernel
theorem dX8_terms_9 : decode cX8_terms 9 = .ok (.bipush (-2), 2) := by decide +kernel
theorem dX8_terms_11 : decode cX8_terms 11 = .ok (.invokevirtual 59, 3) := by decide +kernel
theorem dX8_terms_14 : decode cX8_terms 14 = .ok (.ireturn, 1) := by decide +kernel
theorem dX8_terms_15 : decode cX8_terms 15 = .ok (.aload_n 0, 1) := by decide +kernel
theorem dX8_terms_16 : decode cX8_terms 16 = .ok (.getfield 28, 3) := by decide +kernel
theorem dX8_terms_19 : decode cX8_terms 19 = .ok (.iload_n 1, 1) := by decide +kernel
theorem dX8_terms_20 : decode cX8_terms 20 = .ok (.iload_n 2, 1) := by decide +kernel
theorem dX8_terms_21 : decode cX8_terms 21 = .ok (.invokestatic 87, 3) := by decide +kernel
theorem dX8_terms_24 : decode cX8_terms 24 = .ok (.invokevirtual 99, 3) := by decide +kernel
theorem dX8_terms_27 : decode cX8_terms 27 = .ok (.ireturn, 1) := by decide +kernel
theorem dX8_term_0 : decode cX8_term 0 = .ok (.iload_n 1, 1) := by decide +kernel
theorem dX8_term_1 : decode cX8_term 1 = .ok (.iload_n 2, 1) := by decide +kernel
theorem dX8_term_2 : decode cX8_term 2 = .ok (.invokestatic 74, 3) := by decide +kernel
theorem dX8_term_5 : decode cX8_term 5 = .ok (.ifCond .eq 13, 3) := by decide +kernel
theorem dX8_term_8 : decode cX8_term 8 = .ok (.iload 4, 2) := by decide +kernel
theorem dX8_term_10 : decode cX8_term 10 = .ok (.iconst 0, 1) := by decide +kernel
theorem dX8_term_11 : decode cX8_term 11 = .ok (.iconst 5, 1) := by decide +kernel
theorem dX8_term_12 : decode cX8_term 12 = .ok (.invokestatic 55, 3) := by decide +kernel
theorem dX8_term_15 : decode cX8_term 15 = .ok (.ifCond .ne 10, 3) := by decide +kernel
theorem dX8_term_18 : decode cX8_term 18 = .ok (.aload_n 0, 1) := by decide +kernel
theorem dX8_term_19 : decode cX8_term 19 = .ok (.bipush (-2), 2) := by decide +kernel
theorem dX8_term_21 : decode cX8_term 21 = .ok (.invokevirtual 59, 3) := by decide +kernel
theorem dX8_term_24 : decode cX8_term 24 = .ok (.ireturn, 1) := by decide +kernel
theorem dX8_term_25 : decode cX8_term 25 = .ok (.aload_n 0, 1) := by decide +kernel
theorem dX8_term_26 : decode cX8_term 26 = .ok (.getfield 28, 3) := by decide +kernel
theorem dX8_term_29 : decode cX8_term 29 = .ok (.iload_n 1, 1) := by decide +kernel
theorem dX8_term_30 : decode cX8_term 30 = .ok (.iload_n 2, 1) := by decide +kernel
theorem dX8_term_31 : decode cX8_term 31 = .ok (.invokestatic 87, 3) := by decide +kernel
theorem dX8_term_34 : decode cX8_term 34 = .ok (.iload_n 3, 1) := by decide +kernel
theorem dX8_term_35 : decode cX8_term 35 = .ok (.invokevirtual 147, 3) := by decide +kernel
theorem dX8_term_38 : decode cX8_term 38 = .ok (.istore 5, 2) := by decide +kernel
theorem dX8_term_40 : decode cX8_term 40 = .ok (.iload 5, 2) := by decide +kernel
theorem dX8_term_42 : decode cX8_term 42 = .ok (.ifCond .ne 10, 3) := by decide +kernel
theorem dX8_term_45 : decode cX8_term 45 = .ok (.aload_n 0, 1) := by decide +kernel
theorem dX8_term_46 : decode cX8_term 46 = .ok (.bipush (-2), 2) := by decide +kernel
theorem dX8_term_48 : decode cX8_term 48 = .ok (.invokevirtual 59, 3) := by decide +kernel
theorem dX8_term_51 : decode cX8_term 51 = .ok (.ireturn, 1) := by decide +kernel
theorem dX8_term_52 : decode cX8_term 52 = .ok (.iload 4, 2) := by decide +kernel
theorem dX8_term_54 : decode cX8_term 54 = .ok (.ifCond .ne 11, 3) := by decide +kernel
theorem dX8_term_57 : decode cX8_term 57 = .ok (.iload 5, 2) := by decide +kernel
theorem dX8_term_59 : decode cX8_term 59 = .ok (.invokestatic 150, 3) := by decide +kernel
theorem dX8_term_62 : decode cX8_term 62 = .ok (.iconst 1, 1) := by decide +kernel
theorem dX8_term_63 : decode cX8_term 63 = .ok (.isub, 1) := by decide +kernel
theorem dX8_term_64 : decode cX8_term 64 = .ok (.ireturn, 1) := by decide +kernel
theorem dX8_term_65 : decode cX8_term 65 = .ok (.iload 4, 2) := by decide +kernel
theorem dX8_term_67 : decode cX8_term 67 = .ok (.iconst 5, 1) := by decide +kernel
theorem dX8_term_68 : decode cX8_term 68 = .ok (.if_icmp .ne 9, 3) := by decide +kernel
theorem dX8_term_71 : decode cX8_term 71 = .ok (.iload 5, 2) := by decide +kernel
theorem dX8_term_73 : decode cX8_term 73 = .ok (.invokestatic 155, 3) := by decide +kernel
theorem dX8_term_76 : decode cX8_term 76 = .ok (.ireturn, 1) := by decide +kernel
theorem dX8_term_77 : decode cX8_term 77 = .ok (.iload 5, 2) := by decide +kernel
theorem dX8_term_79 : decode cX8_term 79 = .ok (.invokestatic 150, 3) := by decide +kernel
theorem dX8_term_82 : decode cX8_term 82 = .ok (.iconst 1, 1) := by decide +kernel
theorem dX8_term_83 : decode cX8_term 83 = .ok (.if_icmp .ne 19, 3) := by decide +kernel
theorem dX8_term_86 : decode cX8_term 86 = .ok (.iload 4, 2) := by decide +kernel
theorem dX8_term_88 : decode cX8_term 88 = .ok (.iconst 1, 1) := by decide +kernel
theorem dX8_term_89 : decode cX8_term 89 = .ok (.if_icmp .ne 11, 3) := by decide +kernel
theorem dX8_term_92 : decode cX8_term 92 = .ok (.iload 5, 2) := by decide +kernel
theorem dX8_term_94 : decode cX8_term 94 = .ok (.invokestatic 158, 3) := by decide +kernel
theorem dX8_term_97 : decode cX8_term 97 = .ok (.goto 4, 3) := by decide +kernel
theorem dX8_term_100 : decode cX8_term 100 = .ok (.iconst 0, 1) := by decide +kernel
theorem dX8_term_101 : decode cX8_term 101 = .ok (.ireturn, 1) := by decide +kernel
theorem dX8_term_102 : decode cX8_term 102 = .ok (.iload 5, 2) := by decide +kernel
theorem dX8_term_104 : decode cX8_term 104 = .ok (.iload 4, 2) := by decide +kernel
theorem dX8_term_106 : decode cX8_term 106 = .ok (.iconst 1, 1) := by decide +kernel
theorem dX8_term_107 : decode cX8_term 107 = .ok (.isub, 1) := by decide +kernel
theorem dX8_term_108 : decode cX8_term 108 = .ok (.invokestatic 161, 3) := by decide +kernel
theorem dX8_term_111 : decode cX8_term 111 = .ok (.ireturn, 1) := by decide +kernel
theorem dX8_shown_0 : decode cX8_shown 0 = .ok (.iload_n 1, 1) := by decide +kernel
theorem dX8_shown_1 : decode cX8_shown 1 = .ok (.iload_n 2, 1) := by decide +kernel
theorem dX8_shown_2 : decode cX8_shown 2 = .ok (.invokestatic 74, 3) := by decide +kernel
theorem dX8_shown_5 : decode cX8_shown 5 = .ok (.ifCond .eq 7, 3) := by decide +kernel
theorem dX8_shown_8 : decode cX8_shown 8 = .ok (.iload_n 3, 1) := by decide +kernel
theorem dX8_shown_9 : decode cX8_shown 9 = .ok (.ifCond .ge 10, 3) := by decide +kernel
theorem dX8_shown_12 : decode cX8_shown 12 = .ok (.aload_n 0, 1) := by decide +kernel
theorem dX8_shown_13 : decode cX8_shown 13 = .ok (.bipush (-2), 2) := by decide +kernel
theorem dX8_shown_15 : decode cX8_shown 15 = .ok (.invokevirtual 59, 3) := by decide +kernel
theorem dX8_shown_18 : decode cX8_shown 18 = .ok (.ireturn, 1) := by decide +kernel
theorem dX8_shown_19 : decode cX8_shown 19 = .ok (.aload_n 0, 1) := by decide +kernel
theorem dX8_shown_20 : decode cX8_shown 20 = .ok (.getfield 51, 3) := by decide +kernel
theorem dX8_shown_23 : decode cX8_shown 23 = .ok (.aload_n 0, 1) := by decide +kernel
theorem dX8_shown_24 : decode cX8_shown 24 = .ok (.getfield 28, 3) := by decide +kernel
theorem dX8_shown_27 : decode cX8_shown 27 = .ok (.iload_n 1, 1) := by decide +kernel
theorem dX8_shown_28 : decode cX8_shown 28 = .ok (.iload_n 2, 1) := by decide +kernel
theorem dX8_shown_29 : decode cX8_shown 29 = .ok (.invokestatic 87, 3) := by decide +kernel
theorem dX8_shown_32 : decode cX8_shown 32 = .ok (.invokevirtual 164, 3) := by decide +kernel
theorem dX8_shown_35 : decode cX8_shown 35 = .ok (.aload_n 0, 1) := by decide +kernel
theorem dX8_shown_36 : decode cX8_shown 36 = .ok (.getfield 51, 3) := by decide +kernel
theorem dX8_shown_39 : decode cX8_shown 39 = .ok (.iload_n 3, 1) := by decide +kernel
theorem dX8_shown_40 : decode cX8_shown 40 = .ok (.invokevirtual 168, 3) := by decide +kernel
theorem dX8_shown_43 : decode cX8_shown 43 = .ok (.ireturn, 1) := by decide +kernel
theorem dX8_value_0 : decode cX8_value 0 = .ok (.iload_n 1, 1) := by decide +kernel
theorem dX8_value_1 : decode cX8_value 1 = .ok (.iload_n 2, 1) := by decide +kernel
theorem dX8_value_2 : decode cX8_value 2 = .ok (.invokestatic 74, 3) := by decide +kernel
theorem dX8_value_5 : decode cX8_value 5 = .ok (.ifCond .ne 10, 3) := by decide +kernel
theorem dX8_value_8 : decode cX8_value 8 = .ok (.aload_n 0, 1) := by decide +kernel
theorem dX8_value_9 : decode cX8_value 9 = .ok (.bipush (-2), 2) := by decide +kernel
theorem dX8_value_11 : decode cX8_value 11 = .ok (.invokevirtual 59, 3) := by decide +kernel
theorem dX8_value_14 : decode cX8_value 14 = .ok (.ireturn, 1) := by decide +kernel
theorem dX8_value_15 : decode cX8_value 15 = .ok (.iload_n 1, 1) := by decide +kernel
theorem dX8_value_16 : decode cX8_value 16 = .ok (.iload_n 2, 1) := by decide +kernel
theorem dX8_value_17 : decode cX8_value 17 = .ok (.invokestatic 87, 3) := by decide +kernel
theorem dX8_value_20 : decode cX8_value 20 = .ok (.istore_n 3, 1) := by decide +kernel
theorem dX8_value_21 : decode cX8_value 21 = .ok (.aload_n 0, 1) := by decide +kernel
theorem dX8_value_22 : decode cX8_value 22 = .ok (.getfield 44, 3) := by decide +kernel
theorem dX8_value_25 : decode cX8_value 25 = .ok (.iload_n 3, 1) := by decide +kernel
theorem dX8_value_26 : decode cX8_value 26 = .ok (.invokevirtual 171, 3) := by decide +kernel
theorem dX8_value_29 : decode cX8_value 29 = .ok (.ifCond .eq 18, 3) := by decide +kernel
theorem dX8_value_32 : decode cX8_value 32 = .ok (.bipush (-10), 2) := by decide +kernel
theorem dX8_value_34 : decode cX8_value 34 = .ok (.aload_n 0, 1) := by decide +kernel
theorem dX8_value_35 : decode cX8_value 35 = .ok (.getfield 44, 3) := by decide +kernel
theorem dX8_value_38 : decode cX8_value 38 = .ok (.getfield 175, 3) := by decide +kernel
theorem dX8_value_41 : decode cX8_value 41 = .ok (.iload_n 3, 1) := by decide +kernel
theorem dX8_value_42 : decode cX8_value 42 = .ok (.iaload, 1) := by decide +kernel
theorem dX8_value_43 : decode cX8_value 43 = .ok (.isub, 1) := by decide +kernel
theorem dX8_value_44 : decode cX8_value 44 = .ok (.goto 12, 3) := by decide +kernel
theorem dX8_value_47 : decode cX8_value 47 = .ok (.aload_n 0, 1) := by decide +kernel
theorem dX8_value_48 : decode cX8_value 48 = .ok (.getfield 44, 3) := by decide +kernel
theorem dX8_value_51 : decode cX8_value 51 = .ok (.getfield 178, 3) := by decide +kernel
theorem dX8_value_54 : decode cX8_value 54 = .ok (.iload_n 3, 1) := by decide +kernel
theorem dX8_value_55 : decode cX8_value 55 = .ok (.iaload, 1) := by decide +kernel
theorem dX8_value_56 : decode cX8_value 56 = .ok (.ireturn, 1) := by decide +kernel
theorem dX8_why_0 : decode cX8_why 0 = .ok (.iload_n 1, 1) := by decide +kernel
theorem dX8_why_1 : decode cX8_why 1 = .ok (.iload_n 2, 1) := by decide +kernel
theorem dX8_why_2 : decode cX8_why 2 = .ok (.invokestatic 74, 3) := by decide +kernel
theorem dX8_why_5 : decode cX8_why 5 = .ok (.ifCond .ne 10, 3) := by decide +kernel
theorem dX8_why_8 : decode cX8_why 8 = .ok (.aload_n 0, 1) := by decide +kernel
theorem dX8_why_9 : decode cX8_why 9 = .ok (.bipush (-2), 2) := by decide +kernel
theorem dX8_why_11 : decode cX8_why 11 = .ok (.invokevirtual 59, 3) := by decide +kernel
theorem dX8_why_14 : decode cX8_why 14 = .ok (.ireturn, 1) := by decide +kernel
theorem dX8_why_15 : decode cX8_why 15 = .ok (.iload_n 1, 1) := by decide +kernel
theorem dX8_why_16 : decode cX8_why 16 = .ok (.iload_n 2, 1) := by decide +kernel
theorem dX8_why_17 : decode cX8_why 17 = .ok (.invokestatic 87, 3) := by decide +kernel
theorem dX8_why_20 : decode cX8_why 20 = .ok (.istore_n 3, 1) := by decide +kernel
theorem dX8_why_21 : decode cX8_why 21 = .ok (.aload_n 0, 1) := by decide +kernel
theorem dX8_why_22 : decode cX8_why 22 = .ok (.getfield 44, 3) := by decide +kernel
theorem dX8_why_25 : decode cX8_why 25 = .ok (.iload_n 3, 1) := by decide +kernel
theorem dX8_why_26 : decode cX8_why 26 = .ok (.invokevirtual 171, 3) := by decide +kernel
theorem dX8_why_29 : decode cX8_why 29 = .ok (.ifCond .ne 5, 3) := by decide +kernel
theorem dX8_why_32 : decode cX8_why 32 = .ok (.iconst (-1), 1) := by decide +kernel
theorem dX8_why_33 : decode cX8_why 33 = .ok (.ireturn, 1) := by decide +kernel
theorem dX8_why_34 : decode cX8_why 34 = .ok (.aload_n 0, 1) := by decide +kernel
theorem dX8_why_35 : decode cX8_why 35 = .ok (.getfield 44, 3) := by decide +kernel
theorem dX8_why_38 : decode cX8_why 38 = .ok (.getfield 181, 3) := by decide +kernel
theorem dX8_why_41 : decode cX8_why 41 = .ok (.iload_n 3, 1) := by decide +kernel
theorem dX8_why_42 : decode cX8_why 42 = .ok (.iaload, 1) := by decide +kernel
theorem dX8_why_43 : decode cX8_why 43 = .ok (.istore 4, 2) := by decide +kernel
theorem dX8_why_45 : decode cX8_why 45 = .ok (.bipush 10, 2) := by decide +kernel
theorem dX8_why_47 : decode cX8_why 47 = .ok (.iload 4, 2) := by decide +kernel
theorem dX8_why_49 : decode cX8_why 49 = .ok (.invokestatic 184, 3) := by decide +kernel
theorem dX8_why_52 : decode cX8_why 52 = .ok (.imul, 1) := by decide +kernel
theorem dX8_why_53 : decode cX8_why 53 = .ok (.iload 4, 2) := by decide +kernel
theorem dX8_why_55 : decode cX8_why 55 = .ok (.invokestatic 187, 3) := by decide +kernel
theorem dX8_why_58 : decode cX8_why 58 = .ok (.iadd, 1) := by decide +kernel
theorem dX8_why_59 : decode cX8_why 59 = .ok (.ireturn, 1) := by decide +kernel
theorem dX8_deep_0 : decode cX8_deep 0 = .ok (.iload_n 1, 1) := by decide +kernel
theorem dX8_deep_1 : decode cX8_deep 1 = .ok (.iload_n 2, 1) := by decide +kernel
theorem dX8_deep_2 : decode cX8_deep 2 = .ok (.invokestatic 74, 3) := by decide +kernel
theorem dX8_deep_5 : decode cX8_deep 5 = .ok (.ifCond .ne 10, 3) := by decide +kernel
theorem dX8_deep_8 : decode cX8_deep 8 = .ok (.aload_n 0, 1) := by decide +kernel
theorem dX8_deep_9 : decode cX8_deep 9 = .ok (.bipush (-2), 2) := by decide +kernel
theorem dX8_deep_11 : decode cX8_deep 11 = .ok (.invokevirtual 59, 3) := by decide +kernel
theorem dX8_deep_14 : decode cX8_deep 14 = .ok (.ireturn, 1) := by decide +kernel
theorem dX8_deep_15 : decode cX8_deep 15 = .ok (.iload_n 1, 1) := by decide +kernel
theorem dX8_deep_16 : decode cX8_deep 16 = .ok (.iload_n 2, 1) := by decide +kernel
theorem dX8_deep_17 : decode cX8_deep 17 = .ok (.invokestatic 87, 3) := by decide +kernel
theorem dX8_deep_20 : decode cX8_deep 20 = .ok (.istore_n 3, 1) := by decide +kernel
theorem dX8_deep_21 : decode cX8_deep 21 = .ok (.aload_n 0, 1) := by decide +kernel
theorem dX8_deep_22 : decode cX8_deep 22 = .ok (.getfield 44, 3) := by decide +kernel
theorem dX8_deep_25 : decode cX8_deep 25 = .ok (.iload_n 3, 1) := by decide +kernel
theorem dX8_deep_26 : decode cX8_deep 26 = .ok (.invokevirtual 171, 3) := by decide +kernel
theorem dX8_deep_29 : decode cX8_deep 29 = .ok (.ifCond .eq 15, 3) := by decide +kernel
theorem dX8_deep_32 : decode cX8_deep 32 = .ok (.aload_n 0, 1) := by decide +kernel
theorem dX8_deep_33 : decode cX8_deep 33 = .ok (.getfield 44, 3) := by decide +kernel
theorem dX8_deep_36 : decode cX8_deep 36 = .ok (.getfield 190, 3) := by decide +kernel
theorem dX8_deep_39 : decode cX8_deep 39 = .ok (.iload_n 3, 1) := by decide +kernel
theorem dX8_deep_40 : decode cX8_deep 40 = .ok (.iaload, 1) := by decide +kernel
theorem dX8_deep_41 : decode cX8_deep 41 = .ok (.goto 4, 3) := by decide +kernel
theorem dX8_deep_44 : decode cX8_deep 44 = .ok (.iconst (-1), 1) := by decide +kernel
theorem dX8_deep_45 : decode cX8_deep 45 = .ok (.ireturn, 1) := by decide +kernel
theorem dX8_users_0 : decode cX8_users 0 = .ok (.iload_n 1, 1) := by decide +kernel
theorem dX8_users_1 : decode cX8_users 1 = .ok (.iload_n 2, 1) := by decide +kernel
theorem dX8_users_2 : decode cX8_users 2 = .ok (.invokestatic 74, 3) := by decide +kernel
theorem dX8_users_5 : decode cX8_users 5 = .ok (.ifCond .ne 10, 3) := by decide +kernel
theorem dX8_users_8 : decode cX8_users 8 = .ok (.aload_n 0, 1) := by decide +kernel
theorem dX8_users_9 : decode cX8_users 9 = .ok (.bipush (-2), 2) := by decide +kernel
theorem dX8_users_11 : decode cX8_users 11 = .ok (.invokevirtual 59, 3) := by decide +kernel
theorem dX8_users_14 : decode cX8_users 14 = .ok (.ireturn, 1) := by decide +kernel
theorem dX8_users_15 : decode cX8_users 15 = .ok (.aload_n 0, 1) := by decide +kernel
theorem dX8_users_16 : decode cX8_users 16 = .ok (.getfield 28, 3) := by decide +kernel
theorem dX8_users_19 : decode cX8_users 19 = .ok (.iload_n 1, 1) := by decide +kernel
theorem dX8_users_20 : decode cX8_users 20 = .ok (.iload_n 2, 1) := by decide +kernel
theorem dX8_users_21 : decode cX8_users 21 = .ok (.invokevirtual 193, 3) := by decide +kernel
theorem dX8_users_24 : decode cX8_users 24 = .ok (.ireturn, 1) := by decide +kernel
theorem dX8_count_0 : decode cX8_count 0 = .ok (.iload_n 1, 1) := by decide +kernel
theorem dX8_count_1 : decode cX8_count 1 = .ok (.tableswitch 63 0 3 #[31, 39, 47, 55], 31) := by decide +kernel
theorem dX8_count_32 : decode cX8_count 32 = .ok (.aload_n 0, 1) := by decide +kernel
theorem dX8_count_33 : decode cX8_count 33 = .ok (.getfield 28, 3) := by decide +kernel
theorem dX8_count_36 : decode cX8_count 36 = .ok (.invokevirtual 115, 3) := by decide +kernel
theorem dX8_count_39 : decode cX8_count 39 = .ok (.ireturn, 1) := by decide +kernel
theorem dX8_count_40 : decode cX8_count 40 = .ok (.aload_n 0, 1) := by decide +kernel
theorem dX8_count_41 : decode cX8_count 41 = .ok (.getfield 28, 3) := by decide +kernel
theorem dX8_count_44 : decode cX8_count 44 = .ok (.invokevirtual 196, 3) := by decide +kernel
theorem dX8_count_47 : decode cX8_count 47 = .ok (.ireturn, 1) := by decide +kernel
theorem dX8_count_48 : decode cX8_count 48 = .ok (.aload_n 0, 1) := by decide +kernel
theorem dX8_count_49 : decode cX8_count 49 = .ok (.getfield 28, 3) := by decide +kernel
theorem dX8_count_52 : decode cX8_count 52 = .ok (.invokevirtual 199, 3) := by decide +kernel
theorem dX8_count_55 : decode cX8_count 55 = .ok (.ireturn, 1) := by decide +kernel
theorem dX8_count_56 : decode cX8_count 56 = .ok (.aload_n 0, 1) := by decide +kernel
theorem dX8_count_57 : decode cX8_count 57 = .ok (.getfield 44, 3) := by decide +kernel
theorem dX8_count_60 : decode cX8_count 60 = .ok (.invokevirtual 202, 3) := by decide +kernel
theorem dX8_count_63 : decode cX8_count 63 = .ok (.ireturn, 1) := by decide +kernel
theorem dX8_count_64 : decode cX8_count 64 = .ok (.aload_n 0, 1) := by decide +kernel
theorem dX8_count_65 : decode cX8_count 65 = .ok (.bipush (-2), 2) := by decide +kernel
theorem dX8_count_67 : decode cX8_count 67 = .ok (.invokevirtual 59, 3) := by decide +kernel
theorem dX8_count_70 : decode cX8_count 70 = .ok (.ireturn, 1) := by decide +kernel
theorem dX8_told_0 : decode cX8_told 0 = .ok (.iload_n 1, 1) := by decide +kernel
theorem dX8_told_1 : decode cX8_told 1 = .ok (.tableswitch 66 0 4 #[35, 40, 45, 50, 58], 35) := by decide +kernel
theorem dX8_told_36 : decode cX8_told 36 = .ok (.aload_n 0, 1) := by decide +kernel
theorem dX8_told_37 : decode cX8_told 37 = .ok (.getfield 205, 3) := by decide +kernel
theorem dX8_told_40 : decode cX8_told 40 = .ok (.ireturn, 1) := by decide +kernel
theorem dX8_told_41 : decode cX8_told 41 = .ok (.aload_n 0, 1) := by decide +kernel
theorem dX8_told_42 : decode cX8_told 42 = .ok (.getfield 208, 3) := by decide +kernel
theorem dX8_told_45 : decode cX8_told 45 = .ok (.ireturn, 1) := by decide +kernel
theorem dX8_told_46 : decode cX8_told 46 = .ok (.aload_n 0, 1) := by decide +kernel
theorem dX8_told_47 : decode cX8_told 47 = .ok (.getfield 211, 3) := by decide +kernel
theorem dX8_told_50 : decode cX8_told 50 = .ok (.ireturn, 1) := by decide +kernel
theorem dX8_told_51 : decode cX8_told 51 = .ok (.aload_n 0, 1) := by decide +kernel
theorem dX8_told_52 : decode cX8_told 52 = .ok (.getfield 12, 3) := by decide +kernel
theorem dX8_told_55 : decode cX8_told 55 = .ok (.getfield 214, 3) := by decide +kernel
theorem dX8_told_58 : decode cX8_told 58 = .ok (.ireturn, 1) := by decide +kernel
theorem dX8_told_59 : decode cX8_told 59 = .ok (.aload_n 0, 1) := by decide +kernel
theorem dX8_told_60 : decode cX8_told 60 = .ok (.getfield 35, 3) := by decide +kernel
theorem dX8_told_63 : decode cX8_told 63 = .ok (.getfield 137, 3) := by decide +kernel
theorem dX8_told_66 : decode cX8_told 66 = .ok (.ireturn, 1) := by decide +kernel
theorem dX8_told_67 : decode cX8_told 67 = .ok (.aload_n 0, 1) := by decide +kernel
theorem dX8_told_68 : decode cX8_told 68 = .ok (.bipush (-2), 2) := by decide +kernel
theorem dX8_told_70 : decode cX8_told 70 = .ok (.invokevirtual 59, 3) := by decide +kernel
theorem dX8_told_73 : decode cX8_told 73 = .ok (.ireturn, 1) := by decide +kernel
theorem dX8_digest_0 : decode cX8_digest 0 = .ok (.ldc2_w 217, 3) := by decide +kernel
theorem dX8_digest_3 : decode cX8_digest 3 = .ok (.lstore_n 1, 1) := by decide +kernel
theorem dX8_digest_4 : decode cX8_digest 4 = .ok (.iconst 0, 1) := by decide +kernel
theorem dX8_digest_5 : decode cX8_digest 5 = .ok (.istore_n 3, 1) := by decide +kernel
theorem dX8_digest_6 : decode cX8_digest 6 = .ok (.iload_n 3, 1) := by decide +kernel
theorem dX8_digest_7 : decode cX8_digest 7 = .ok (.iconst 4, 1) := by decide +kernel
theorem dX8_digest_8 : decode cX8_digest 8 = .ok (.if_icmp .gt 22, 3) := by decide +kernel
theorem dX8_digest_11 : decode cX8_digest 11 = .ok (.ldc2_w 219, 3) := by decide +kernel
theorem dX8_digest_14 : decode cX8_digest 14 = .ok (.lload_n 1, 1) := by decide +kernel
theorem dX8_digest_15 : decode cX8_digest 15 = .ok (.lmul, 1) := by decide +kernel
theorem dX8_digest_16 : decode cX8_digest 16 = .ok (.aload_n 0, 1) := by decide +kernel
theorem dX8_digest_17 : decode cX8_digest 17 = .ok (.iload_n 3, 1) := by decide +kernel
theorem dX8_digest_18 : decode cX8_digest 18 = .ok (.invokevirtual 221, 3) := by decide +kernel
theorem dX8_digest_21 : decode cX8_digest 21 = .ok (.i2l, 1) := by decide +kernel
theorem dX8_digest_22 : decode cX8_digest 22 = .ok (.ladd, 1) := by decide +kernel
theorem dX8_digest_23 : decode cX8_digest 23 = .ok (.lstore_n 1, 1) := by decide +kernel
theorem dX8_digest_24 : decode cX8_digest 24 = .ok (.iinc 3 1, 3) := by decide +kernel
theorem dX8_digest_27 : decode cX8_digest 27 = .ok (.goto (-21), 3) := by decide +kernel
theorem dX8_digest_30 : decode cX8_digest 30 = .ok (.iconst 0, 1) := by decide +kernel
theorem dX8_digest_31 : decode cX8_digest 31 = .ok (.istore_n 3, 1) := by decide +kernel
theorem dX8_digest_32 : decode cX8_digest 32 = .ok (.iload_n 3, 1) := by decide +kernel
theorem dX8_digest_33 : decode cX8_digest 33 = .ok (.iconst 3, 1) := by decide +kernel
theorem dX8_digest_34 : decode cX8_digest 34 = .ok (.if_icmp .gt 22, 3) := by decide +kernel
theorem dX8_digest_37 : decode cX8_digest 37 = .ok (.ldc2_w 219, 3) := by decide +kernel
theorem dX8_digest_40 : decode cX8_digest 40 = .ok (.lload_n 1, 1) := by decide +kernel
theorem dX8_digest_41 : decode cX8_digest 41 = .ok (.lmul, 1) := by decide +kernel
theorem dX8_digest_42 : decode cX8_digest 42 = .ok (.aload_n 0, 1) := by decide +kernel
theorem dX8_digest_43 : decode cX8_digest 43 = .ok (.iload_n 3, 1) := by decide +kernel
theorem dX8_digest_44 : decode cX8_digest 44 = .ok (.invokevirtual 224, 3) := by decide +kernel
theorem dX8_digest_47 : decode cX8_digest 47 = .ok (.i2l, 1) := by decide +kernel
theorem dX8_digest_48 : decode cX8_digest 48 = .ok (.ladd, 1) := by decide +kernel
theorem dX8_digest_49 : decode cX8_digest 49 = .ok (.lstore_n 1, 1) := by decide +kernel
theorem dX8_digest_50 : decode cX8_digest 50 = .ok (.iinc 3 1, 3) := by decide +kernel
theorem dX8_digest_53 : decode cX8_digest 53 = .ok (.goto (-21), 3) := by decide +kernel
theorem dX8_digest_56 : decode cX8_digest 56 = .ok (.iconst 0, 1) := by decide +kernel
theorem dX8_digest_57 : decode cX8_digest 57 = .ok (.istore_n 3, 1) := by decide +kernel
theorem dX8_digest_58 : decode cX8_digest 58 = .ok (.iload_n 3, 1) := by decide +kernel
theorem dX8_digest_59 : decode cX8_digest 59 = .ok (.bipush 36, 2) := by decide +kernel
theorem dX8_digest_61 : decode cX8_digest 61 = .ok (.if_icmp .ge 23, 3) := by decide +kernel
theorem dX8_digest_64 : decode cX8_digest 64 = .ok (.aload_n 0, 1) := by decide +kernel
theorem dX8_digest_65 : decode cX8_digest 65 = .ok (.lload_n 1, 1) := by decide +kernel
theorem dX8_digest_66 : decode cX8_digest 66 = .ok (.iload_n 3, 1) := by decide +kernel
theorem dX8_digest_67 : decode cX8_digest 67 = .ok (.invokestatic 184, 3) := by decide +kernel
theorem dX8_digest_70 : decode cX8_digest 70 = .ok (.iload_n 3, 1) := by decide +kernel
theorem dX8_digest_71 : decode cX8_digest 71 = .ok (.invokestatic 187, 3) := by decide +kernel
theorem dX8_digest_74 : decode cX8_digest 74 = .ok (.invokevirtual 227, 3) := by decide +kernel
theorem dX8_digest_77 : decode cX8_digest 77 = .ok (.lstore_n 1, 1) := by decide +kernel
theorem dX8_digest_78 : decode cX8_digest 78 = .ok (.iinc 3 1, 3) := by decide +kernel
theorem dX8_digest_81 : decode cX8_digest 81 = .ok (.goto (-23), 3) := by decide +kernel
theorem dX8_digest_84 : decode cX8_digest 84 = .ok (.lload_n 1, 1) := by decide +kernel
theorem dX8_digest_85 : decode cX8_digest 85 = .ok (.lreturn, 1) := by decide +kernel
theorem dX8_digestWith_0 : decode cX8_digestWith 0 = .ok (.aload_n 0, 1) := by decide +kernel
theorem dX8_digestWith_1 : decode cX8_digestWith 1 = .ok (.iload_n 3, 1) := by decide +kernel
theorem dX8_digestWith_2 : decode cX8_digestWith 2 = .ok (.iload 4, 2) := by decide +kernel
theorem dX8_digestWith_4 : decode cX8_digestWith 4 = .ok (.invokevirtual 231, 3) := by decide +kernel
theorem dX8_digestWith_7 : decode cX8_digestWith 7 = .ok (.istore 5, 2) := by decide +kernel
theorem dX8_digestWith_9 : decode cX8_digestWith 9 = .ok (.ldc2_w 219, 3) := by decide +kernel
theorem dX8_digestWith_12 : decode cX8_digestWith 12 = .ok (.lload_n 1, 1) := by decide +kernel
theorem dX8_digestWith_13 : decode cX8_digestWith 13 = .ok (.lmul, 1) := by decide +kernel
theorem dX8_digestWith_14 : decode cX8_digestWith 14 = .ok (.iload 5, 2) := by decide +kernel
theorem dX8_digestWith_16 : decode cX8_digestWith 16 = .ok (.i2l, 1) := by decide +kernel
theorem dX8_digestWith_17 : decode cX8_digestWith 17 = .ok (.ladd, 1) := by decide +kernel
theorem dX8_digestWith_18 : decode cX8_digestWith 18 = .ok (.lstore 6, 2) := by decide +kernel
theorem dX8_digestWith_20 : decode cX8_digestWith 20 = .ok (.iconst 0, 1) := by decide +kernel
theorem dX8_digestWith_21 : decode cX8_digestWith 21 = .ok (.istore 8, 2) := by decide +kernel
theorem dX8_digestWith_23 : decode cX8_digestWith 23 = .ok (.iload 8, 2) := by decide +kernel
theorem dX8_digestWith_25 : decode cX8_digestWith 25 = .ok (.iload 5, 2) := by decide +kernel
theorem dX8_digestWith_27 : decode cX8_digestWith 27 = .ok (.if_icmp .ge 45, 3) := by decide +kernel
theorem dX8_digestWith_30 : decode cX8_digestWith 30 = .ok (.iconst 0, 1) := by decide +kernel
theorem dX8_digestWith_31 : decode cX8_digestWith 31 = .ok (.istore 9, 2) := by decide +kernel
theorem dX8_digestWith_33 : decode cX8_digestWith 33 = .ok (.iload 9, 2) := by decide +kernel
theorem dX8_digestWith_35 : decode cX8_digestWith 35 = .ok (.iconst 5, 1) := by decide +kernel
theorem dX8_digestWith_36 : decode cX8_digestWith 36 = .ok (.if_icmp .gt 30, 3) := by decide +kernel
theorem dX8_digestWith_39 : decode cX8_digestWith 39 = .ok (.ldc2_w 219, 3) := by decide +kernel
theorem dX8_digestWith_42 : decode cX8_digestWith 42 = .ok (.lload 6, 2) := by decide +kernel
theorem dX8_digestWith_44 : decode cX8_digestWith 44 = .ok (.lmul, 1) := by decide +kernel
theorem dX8_digestWith_45 : decode cX8_digestWith 45 = .ok (.aload_n 0, 1) := by decide +kernel
theorem dX8_digestWith_46 : decode cX8_digestWith 46 = .ok (.iload_n 3, 1) := by decide +kernel
theorem dX8_digestWith_47 : decode cX8_digestWith 47 = .ok (.iload 4, 2) := by decide +kernel
theorem dX8_digestWith_49 : decode cX8_digestWith 49 = .ok (.iload 8, 2) := by decide +kernel
theorem dX8_digestWith_51 : decode cX8_digestWith 51 = .ok (.iload 9, 2) := by decide +kernel
theorem dX8_digestWith_53 : decode cX8_digestWith 53 = .ok (.invokevirtual 234, 3) := by decide +kernel
theorem dX8_digestWith_56 : decode cX8_digestWith 56 = .ok (.i2l, 1) := by decide +kernel
theorem dX8_digestWith_57 : decode cX8_digestWith 57 = .ok (.ladd, 1) := by decide +kernel
theorem dX8_digestWith_58 : decode cX8_digestWith 58 = .ok (.lstore 6, 2) := by decide +kernel
theorem dX8_digestWith_60 : decode cX8_digestWith 60 = .ok (.iinc 9 1, 3) := by decide +kernel
theorem dX8_digestWith_63 : decode cX8_digestWith 63 = .ok (.goto (-30), 3) := by decide +kernel
theorem dX8_digestWith_66 : decode cX8_digestWith 66 = .ok (.iinc 8 1, 3) := by decide +kernel
theorem dX8_digestWith_69 : decode cX8_digestWith 69 = .ok (.goto (-46), 3) := by decide +kernel
theorem dX8_digestWith_72 : decode cX8_digestWith 72 = .ok (.ldc2_w 219, 3) := by decide +kernel
theorem dX8_digestWith_75 : decode cX8_digestWith 75 = .ok (.lload 6, 2) := by decide +kernel
theorem dX8_digestWith_77 : decode cX8_digestWith 77 = .ok (.lmul, 1) := by decide +kernel
theorem dX8_digestWith_78 : decode cX8_digestWith 78 = .ok (.aload_n 0, 1) := by decide +kernel
theorem dX8_digestWith_79 : decode cX8_digestWith 79 = .ok (.iload_n 3, 1) := by decide +kernel
theorem dX8_digestWith_80 : decode cX8_digestWith 80 = .ok (.iload 4, 2) := by decide +kernel
theorem dX8_digestWith_82 : decode cX8_digestWith 82 = .ok (.invokevirtual 238, 3) := by decide +kernel
theorem dX8_digestWith_85 : decode cX8_digestWith 85 = .ok (.i2l, 1) := by decide +kernel
theorem dX8_digestWith_86 : decode cX8_digestWith 86 = .ok (.ladd, 1) := by decide +kernel
theorem dX8_digestWith_87 : decode cX8_digestWith 87 = .ok (.lstore 6, 2) := by decide +kernel
theorem dX8_digestWith_89 : decode cX8_digestWith 89 = .ok (.ldc2_w 219, 3) := by decide +kernel
theorem dX8_digestWith_92 : decode cX8_digestWith 92 = .ok (.lload 6, 2) := by decide +kernel
theorem dX8_digestWith_94 : decode cX8_digestWith 94 = .ok (.lmul, 1) := by decide +kernel
theorem dX8_digestWith_95 : decode cX8_digestWith 95 = .ok (.aload_n 0, 1) := by decide +kernel
theorem dX8_digestWith_96 : decode cX8_digestWith 96 = .ok (.iload_n 3, 1) := by decide +kernel
theorem dX8_digestWith_97 : decode cX8_digestWith 97 = .ok (.iload 4, 2) := by decide +kernel
theorem dX8_digestWith_99 : decode cX8_digestWith 99 = .ok (.invokevirtual 241, 3) := by decide +kernel
theorem dX8_digestWith_102 : decode cX8_digestWith 102 = .ok (.i2l, 1) := by decide +kernel
theorem dX8_digestWith_103 : decode cX8_digestWith 103 = .ok (.ladd, 1) := by decide +kernel
theorem dX8_digestWith_104 : decode cX8_digestWith 104 = .ok (.lreturn, 1) := by decide +kernel
theorem dX8_refused_0 : decode cX8_refused 0 = .ok (.iload_n 1, 1) := by decide +kernel
theorem dX8_refused_1 : decode cX8_refused 1 = .ok (.bipush (-2), 2) := by decide +kernel
theorem dX8_refused_3 : decode cX8_refused 3 = .ok (.if_icmp .ne 16, 3) := by decide +kernel
theorem dX8_refused_6 : decode cX8_refused 6 = .ok (.aload_n 0, 1) := by decide +kernel
theorem dX8_refused_7 : decode cX8_refused 7 = .ok (.dup, 1) := by decide +kernel
theorem dX8_refused_8 : decode cX8_refused 8 = .ok (.getfield 205, 3) := by decide +kernel
theorem dX8_refused_11 : decode cX8_refused 11 = .ok (.iconst 1, 1) := by decide +kernel
theorem dX8_refused_12 : decode cX8_refused 12 = .ok (.iadd, 1) := by decide +kernel
theorem dX8_refused_13 : decode cX8_refused 13 = .ok (.putfield 205, 3) := by decide +kernel
theorem dX8_refused_16 : decode cX8_refused 16 = .ok (.goto 32, 3) := by decide +kernel
theorem dX8_refused_19 : decode cX8_refused 19 = .ok (.iload_n 1, 1) := by decide +kernel
theorem dX8_refused_20 : decode cX8_refused 20 = .ok (.bipush (-3), 2) := by decide +kernel
theorem dX8_refused_22 : decode cX8_refused 22 = .ok (.if_icmp .ne 16, 3) := by decide +kernel
theorem dX8_refused_25 : decode cX8_refused 25 = .ok (.aload_n 0, 1) := by decide +kernel
theorem dX8_refused_26 : decode cX8_refused 26 = .ok (.dup, 1) := by decide +kernel
theorem dX8_refused_27 : decode cX8_refused 27 = .ok (.getfield 208, 3) := by decide +kernel
theorem dX8_refused_30 : decode cX8_refused 30 = .ok (.iconst 1, 1) := by decide +kernel
theorem dX8_refused_31 : decode cX8_refused 31 = .ok (.iadd, 1) := by decide +kernel
theorem dX8_refused_32 : decode cX8_refused 32 = .ok (.putfield 208, 3) := by decide +kernel
theorem dX8_refused_35 : decode cX8_refused 35 = .ok (.goto 13, 3) := by decide +kernel
theorem dX8_refused_38 : decode cX8_refused 38 = .ok (.aload_n 0, 1) := by decide +kernel
theorem dX8_refused_39 : decode cX8_refused 39 = .ok (.dup, 1) := by decide +kernel
theorem dX8_refused_40 : decode cX8_refused 40 = .ok (.getfield 211, 3) := by decide +kernel
theorem dX8_refused_43 : decode cX8_refused 43 = .ok (.iconst 1, 1) := by decide +kernel
theorem dX8_refused_44 : decode cX8_refused 44 = .ok (.iadd, 1) := by decide +kernel
theorem dX8_refused_45 : decode cX8_refused 45 = .ok (.putfield 211, 3) := by decide +kernel
theorem dX8_refused_48 : decode cX8_refused 48 = .ok (.iload_n 1, 1) := by decide +kernel
theorem dX8_refused_49 : decode cX8_refused 49 = .ok (.ireturn, 1) := by decide +kernel
theorem dX8_leaveState_0 : decode cX8_leaveState 0 = .ok (.aload_n 0, 1) := by decide +kernel
theorem dX8_leaveState_1 : decode cX8_leaveState 1 = .ok (.getfield 35, 3) := by decide +kernel
theorem dX8_leaveState_4 : decode cX8_leaveState 4 = .ok (.aload_n 0, 1) := by decide +kernel
theorem dX8_leaveState_5 : decode cX8_leaveState 5 = .ok (.getfield 28, 3) := by decide +kernel
theorem dX8_leaveState_8 : decode cX8_leaveState 8 = .ok (.invokevirtual 244, 3) := by decide +kernel
theorem dX8_leaveState_11 : decode cX8_leaveState 11 = .ok (.aload_n 0, 1) := by decide +kernel
theorem dX8_leaveState_12 : decode cX8_leaveState 12 = .ok (.getfield 44, 3) := by decide +kernel
theorem dX8_leaveState_15 : decode cX8_leaveState 15 = .ok (.invokevirtual 144, 3) := by decide +kernel
theorem dX8_leaveState_18 : decode cX8_leaveState 18 = .ok (.return_, 1) := by decide +kernel
theorem dX8_isWithin_0 : decode cX8_isWithin 0 = .ok (.iload_n 0, 1) := by decide +kernel
theorem dX8_isWithin_1 : decode cX8_isWithin 1 = .ok (.iload_n 1, 1) := by decide +kernel
theorem dX8_isWithin_2 : decode cX8_isWithin 2 = .ok (.if_icmp .lt 12, 3) := by decide +kernel
theorem dX8_isWithin_5 : decode cX8_isWithin 5 = .ok (.iload_n 0, 1) := by decide +kernel
theorem dX8_isWithin_6 : decode cX8_isWithin 6 = .ok (.iload_n 2, 1) := by decide +kernel
theorem dX8_isWithin_7 : decode cX8_isWithin 7 = .ok (.if_icmp .gt 7, 3) := by decide +kernel
theorem dX8_isWithin_10 : decode cX8_isWithin 10 = .ok (.iconst 1, 1) := by decide +kernel
theorem dX8_isWithin_11 : decode cX8_isWithin 11 = .ok (.goto 4, 3) := by decide +kernel
theorem dX8_isWithin_14 : decode cX8_isWithin 14 = .ok (.iconst 0, 1) := by decide +kernel
theorem dX8_isWithin_15 : decode cX8_isWithin 15 = .ok (.ireturn, 1) := by decide +kernel
theorem dX8_isPlace_0 : decode cX8_isPlace 0 = .ok (.iload_n 0, 1) := by decide +kernel
theorem dX8_isPlace_1 : decode cX8_isPlace 1 = .ok (.iconst 0, 1) := by decide +kernel
theorem dX8_isPlace_2 : decode cX8_isPlace 2 = .ok (.iconst 5, 1) := by decide +kernel
theorem dX8_isPlace_3 : decode cX8_isPlace 3 = .ok (.invokestatic 55, 3) := by decide +kernel
theorem dX8_isPlace_6 : decode cX8_isPlace 6 = .ok (.ifCond .eq 16, 3) := by decide +kernel
theorem dX8_isPlace_9 : decode cX8_isPlace 9 = .ok (.iload_n 1, 1) := by decide +kernel
theorem dX8_isPlace_10 : decode cX8_isPlace 10 = .ok (.iconst 0, 1) := by decide +kernel
theorem dX8_isPlace_11 : decode cX8_isPlace 11 = .ok (.iconst 5, 1) := by decide +kernel
theorem dX8_isPlace_12 : decode cX8_isPlace 12 = .ok (.invokestatic 55, 3) := by decide +kernel
theorem dX8_isPlace_15 : decode cX8_isPlace 15 = .ok (.ifCond .eq 7, 3) := by decide +kernel
theorem dX8_isPlace_18 : decode cX8_isPlace 18 = .ok (.iconst 1, 1) := by decide +kernel
theorem dX8_isPlace_19 : decode cX8_isPlace 19 = .ok (.goto 4, 3) := by decide +kernel
theorem dX8_isPlace_22 : decode cX8_isPlace 22 = .ok (.iconst 0, 1) := by decide +kernel
theorem dX8_isPlace_23 : decode cX8_isPlace 23 = .ok (.ireturn, 1) := by decide +kernel
theorem dX8_isArea_0 : decode cX8_isArea 0 = .ok (.iload_n 0, 1) := by decide +kernel
theorem dX8_isArea_1 : decode cX8_isArea 1 = .ok (.iload_n 1, 1) := by decide +kernel
theorem dX8_isArea_2 : decode cX8_isArea 2 = .ok (.invokestatic 74, 3) := by decide +kernel
theorem dX8_isArea_5 : decode cX8_isArea 5 = .ok (.ifCond .eq 31, 3) := by decide +kernel
theorem dX8_isArea_8 : decode cX8_isArea 8 = .ok (.iload_n 2, 1) := by decide +kernel
theorem dX8_isArea_9 : decode cX8_isArea 9 = .ok (.iconst 1, 1) := by decide +kernel
theorem dX8_isArea_10 : decode cX8_isArea 10 = .ok (.bipush 6, 2) := by decide +kernel
theorem dX8_isArea_12 : decode cX8_isArea 12 = .ok (.iload_n 0, 1) := by decide +kernel
theorem dX8_isArea_13 : decode cX8_isArea 13 = .ok (.isub, 1) := by decide +kernel
theorem dX8_isArea_14 : decode cX8_isArea 14 = .ok (.invokestatic 55, 3) := by decide +kernel
theorem dX8_isArea_17 : decode cX8_isArea 17 = .ok (.ifCond .eq 19, 3) := by decide +kernel
theorem dX8_isArea_20 : decode cX8_isArea 20 = .ok (.iload_n 3, 1) := by decide +kernel
theorem dX8_isArea_21 : decode cX8_isArea 21 = .ok (.iconst 1, 1) := by decide +kernel
theorem dX8_isArea_22 : decode cX8_isArea 22 = .ok (.bipush 6, 2) := by decide +kernel
theorem dX8_isArea_24 : decode cX8_isArea 24 = .ok (.iload_n 1, 1) := by decide +kernel
theorem dX8_isArea_25 : decode cX8_isArea 25 = .ok (.isub, 1) := by decide +kernel
theorem dX8_isArea_26 : decode cX8_isArea 26 = .ok (.invokestatic 55, 3) := by decide +kernel
theorem dX8_isArea_29 : decode cX8_isArea 29 = .ok (.ifCond .eq 7, 3) := by decide +kernel
theorem dX8_isArea_32 : decode cX8_isArea 32 = .ok (.iconst 1, 1) := by decide +kernel
theorem dX8_isArea_33 : decode cX8_isArea 33 = .ok (.goto 4, 3) := by decide +kernel
theorem dX8_isArea_36 : decode cX8_isArea 36 = .ok (.iconst 0, 1) := by decide +kernel
theorem dX8_isArea_37 : decode cX8_isArea 37 = .ok (.ireturn, 1) := by decide +kernel
theorem dX8_isCell_0 : decode cX8_isCell 0 = .ok (.iload_n 0, 1) := by decide +kernel
theorem dX8_isCell_1 : decode cX8_isCell 1 = .ok (.ifCond .lt 13, 3) := by decide +kernel
theorem dX8_isCell_4 : decode cX8_isCell 4 = .ok (.iload_n 0, 1) := by decide +kernel
theorem dX8_isCell_5 : decode cX8_isCell 5 = .ok (.bipush 36, 2) := by decide +kernel
theorem dX8_isCell_7 : decode cX8_isCell 7 = .ok (.if_icmp .ge 7, 3) := by decide +kernel
theorem dX8_isCell_10 : decode cX8_isCell 10 = .ok (.iconst 1, 1) := by decide +kernel
theorem dX8_isCell_11 : decode cX8_isCell 11 = .ok (.goto 4, 3) := by decide +kernel
theorem dX8_isCell_14 : decode cX8_isCell 14 = .ok (.iconst 0, 1) := by decide +kernel
theorem dX8_isCell_15 : decode cX8_isCell 15 = .ok (.ireturn, 1) := by decide +kernel
theorem dX8_cellAt_0 : decode cX8_cellAt 0 = .ok (.iload_n 1, 1) := by decide +kernel
theorem dX8_cellAt_1 : decode cX8_cellAt 1 = .ok (.bipush 6, 2) := by decide +kernel
theorem dX8_cellAt_3 : decode cX8_cellAt 3 = .ok (.imul, 1) := by decide +kernel
theorem dX8_cellAt_4 : decode cX8_cellAt 4 = .ok (.iload_n 0, 1) := by decide +kernel
theorem dX8_cellAt_5 : decode cX8_cellAt 5 = .ok (.iadd, 1) := by decide +kernel
theorem dX8_cellAt_6 : decode cX8_cellAt 6 = .ok (.ireturn, 1) := by decide +kernel
theorem dX8_columnOf_0 : decode cX8_columnOf 0 = .ok (.iload_n 0, 1) := by decide +kernel
theorem dX8_columnOf_1 : decode cX8_columnOf 1 = .ok (.bipush 6, 2) := by decide +kernel
theorem dX8_columnOf_3 : decode cX8_columnOf 3 = .ok (.irem, 1) := by decide +kernel
theorem dX8_columnOf_4 : decode cX8_columnOf 4 = .ok (.ireturn, 1) := by decide +kernel
theorem dX8_rowOf_0 : decode cX8_rowOf 0 = .ok (.iload_n 0, 1) := by decide +kernel
theorem dX8_rowOf_1 : decode cX8_rowOf 1 = .ok (.bipush 6, 2) := by decide +kernel
theorem dX8_rowOf_3 : decode cX8_rowOf 3 = .ok (.idiv, 1) := by decide +kernel
theorem dX8_rowOf_4 : decode cX8_rowOf 4 = .ok (.ireturn, 1) := by decide +kernel
theorem dX8_axisOf_0 : decode cX8_axisOf 0 = .ok (.iload_n 0, 1) := by decide +kernel
theorem dX8_axisOf_1 : decode cX8_axisOf 1 = .ok (.ifCond .ne 7, 3) := by decide +kernel
theorem dX8_axisOf_4 : decode cX8_axisOf 4 = .ok (.iconst 1, 1) := by decide +kernel
theorem dX8_axisOf_5 : decode cX8_axisOf 5 = .ok (.goto 4, 3) := by decide +kernel
theorem dX8_axisOf_8 : decode cX8_axisOf 8 = .ok (.iconst 0, 1) := by decide +kernel
theorem dX8_axisOf_9 : decode cX8_axisOf 9 = .ok (.ireturn, 1) := by decide +kernel
theorem dJ9_max_7cf53_0 : decode cJ9_max_7cf53 0 = .ok (.iload_n 0, 1) := by decide +kernel
theorem dJ9_max_7cf53_1 : decode cJ9_max_7cf53 1 = .ok (.iload_n 1, 1) := by decide +kernel
theorem dJ9_max_7cf53_2 : decode cJ9_max_7cf53 2 = .ok (.if_icmp .lt 7, 3) := by decide +kernel
theorem dJ9_max_7cf53_5 : decode cJ9_max_7cf53 5 = .ok (.iload_n 0, 1) := by decide +kernel
theorem dJ9_max_7cf53_6 : decode cJ9_max_7cf53 6 = .ok (.goto 4, 3) := by decide +kernel
theorem dJ9_max_7cf53_9 : decode cJ9_max_7cf53 9 = .ok (.iload_n 1, 1) := by decide +kernel
theorem dJ9_max_7cf53_10 : decode cJ9_max_7cf53 10 = .ok (.ireturn, 1) := by decide +kernel
theorem dJ9_min_7cf53_0 : decode cJ9_min_7cf53 0 = .ok (.iload_n 0, 1) := by decide +kernel
theorem dJ9_min_7cf53_1 : decode cJ9_min_7cf53 1 = .ok (.iload_n 1, 1) := by decide +kernel
theorem dJ9_min_7cf53_2 : decode cJ9_min_7cf53 2 = .ok (.if_icmp .gt 7, 3) := by decide +kernel
theorem dJ9_min_7cf53_5 : decode cJ9_min_7cf53 5 = .ok (.iload_n 0, 1) := by decide +kernel
theorem dJ9_min_7cf53_6 : decode cJ9_min_7cf53 6 = .ok (.goto 4, 3) := by decide +kernel
theorem dJ9_min_7cf53_9 : decode cJ9_min_7cf53 9 = .ok (.iload_n 1, 1) := by decide +kernel
theorem dJ9_min_7cf53_10 : decode cJ9_min_7cf53 10 = .ok (.ireturn, 1) := by decide +kernel
theorem dJ7_fill_53178_0 : decode cJ7_fill_53178 0 = .ok (.iconst 0, 1) := by decide +kernel
theorem dJ7_fill_53178_1 : decode cJ7_fill_53178 1 = .ok (.istore_n 2, 1) := by decide +kernel
theorem dJ7_fill_53178_2 : decode cJ7_fill_53178 2 = .ok (.aload_n 0, 1) := by decide +kernel
theorem dJ7_fill_53178_3 : decode cJ7_fill_53178 3 = .ok (.arraylength, 1) := by decide +kernel
theorem dJ7_fill_53178_4 : decode cJ7_fill_53178 4 = .ok (.istore_n 3, 1) := by decide +kernel
theorem dJ7_fill_53178_5 : decode cJ7_fill_53178 5 = .ok (.iload_n 2, 1) := by decide +kernel
theorem dJ7_fill_53178_6 : decode cJ7_fill_53178 6 = .ok (.iload_n 3, 1) := by decide +kernel
theorem dJ7_fill_53178_7 : decode cJ7_fill_53178 7 = .ok (.if_icmp .ge 13, 3) := by decide +kernel
theorem dJ7_fill_53178_10 : decode cJ7_fill_53178 10 = .ok (.aload_n 0, 1) := by decide +kernel
theorem dJ7_fill_53178_11 : decode cJ7_fill_53178 11 = .ok (.iload_n 2, 1) := by decide +kernel
theorem dJ7_fill_53178_12 : decode cJ7_fill_53178 12 = .ok (.iload_n 1, 1) := by decide +kernel
theorem dJ7_fill_53178_13 : decode cJ7_fill_53178 13 = .ok (.iastore, 1) := by decide +kernel
theorem dJ7_fill_53178_14 : decode cJ7_fill_53178 14 = .ok (.iinc 2 1, 3) := by decide +kernel
theorem dJ7_fill_53178_17 : decode cJ7_fill_53178 17 = .ok (.goto (-12), 3) := by decide +kernel
theorem dJ7_fill_53178_20 : decode cJ7_fill_53178 20 = .ok (.return_, 1) := by decide +kernel

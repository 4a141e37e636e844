theorem dX4_init_0 : decode cX4_init 0 = .ok (.aload_n 0, 1) := by decide +kernel
theorem dX4_init_1 : decode cX4_init 1 = .ok (.invokespecial 1, 3) := by decide +kernel
theorem dX4_init_4 : decode cX4_init 4 = .ok (.aload_n 0, 1) := by decide +kernel
theorem dX4_init_5 : decode cX4_init 5 = .ok (.new 7, 3) := by decide +kernel
theorem dX4_init_8 : decode cX4_init 8 = .ok (.dup, 1) := by decide +kernel
theorem dX4_init_9 : decode cX4_init 9 = .ok (.invokespecial 9, 3) := by decide +kernel
theorem dX4_init_12 : decode cX4_init 12 = .ok (.putfield 10, 3) := by decide +kernel
theorem dX4_init_15 : decode cX4_init 15 = .ok (.aload_n 0, 1) := by decide +kernel
theorem dX4_init_16 : decode cX4_init 16 = .ok (.new 16, 3) := by decide +kernel
theorem dX4_init_19 : decode cX4_init 19 = .ok (.dup, 1) := by decide +kernel
theorem dX4_init_20 : decode cX4_init 20 = .ok (.invokespecial 18, 3) := by decide +kernel
theorem dX4_init_23 : decode cX4_init 23 = .ok (.putfield 19, 3) := by decide +kernel
theorem dX4_init_26 : decode cX4_init 26 = .ok (.aload_n 0, 1) := by decide +kernel
theorem dX4_init_27 : decode cX4_init 27 = .ok (.new 23, 3) := by decide +kernel
theorem dX4_init_30 : decode cX4_init 30 = .ok (.dup, 1) := by decide +kernel
theorem dX4_init_31 : decode cX4_init 31 = .ok (.invokespecial 25, 3) := by decide +kernel
theorem dX4_init_34 : decode cX4_init 34 = .ok (.putfield 26, 3) := by decide +kernel
theorem dX4_init_37 : decode cX4_init 37 = .ok (.aload_n 0, 1) := by decide +kernel
theorem dX4_init_38 : decode cX4_init 38 = .ok (.bipush 6, 2) := by decide +kernel
theorem dX4_init_40 : decode cX4_init 40 = .ok (.anewarray 30, 3) := by decide +kernel
theorem dX4_init_43 : decode cX4_init 43 = .ok (.putfield 32, 3) := by decide +kernel
theorem dX4_init_46 : decode cX4_init 46 = .ok (.iconst 0, 1) := by decide +kernel
theorem dX4_init_47 : decode cX4_init 47 = .ok (.istore_n 1, 1) := by decide +kernel
theorem dX4_init_48 : decode cX4_init 48 = .ok (.iload_n 1, 1) := by decide +kernel
theorem dX4_init_49 : decode cX4_init 49 = .ok (.bipush 6, 2) := by decide +kernel
theorem dX4_init_51 : decode cX4_init 51 = .ok (.if_icmp .ge 31, 3) := by decide +kernel
theorem dX4_init_54 : decode cX4_init 54 = .ok (.aload_n 0, 1) := by decide +kernel
theorem dX4_init_55 : decode cX4_init 55 = .ok (.getfield 32, 3) := by decide +kernel
theorem dX4_init_58 : decode cX4_init 58 = .ok (.iload_n 1, 1) := by decide +kernel
theorem dX4_init_59 : decode cX4_init 59 = .ok (.new 30, 3) := by decide +kernel
theorem dX4_init_62 : decode cX4_init 62 = .ok (.dup, 1) := by decide +kernel
theorem dX4_init_63 : decode cX4_init 63 = .ok (.iload_n 1, 1) := by decide +kernel
theorem dX4_init_64 : decode cX4_init 64 = .ok (.aload_n 0, 1) := by decide +kernel
theorem dX4_init_65 : decode cX4_init 65 = .ok (.getfield 10, 3) := by decide +kernel
theorem dX4_init_68 : decode cX4_init 68 = .ok (.aload_n 0, 1) := by decide +kernel
theorem dX4_init_69 : decode cX4_init 69 = .ok (.getfield 19, 3) := by decide +kernel
theorem dX4_init_72 : decode cX4_init 72 = .ok (.invokespecial 36, 3) := by decide +kernel
theorem dX4_init_75 : decode cX4_init 75 = .ok (.aastore, 1) := by decide +kernel
theorem dX4_init_76 : decode cX4_init 76 = .ok (.iinc 1 1, 3) := by decide +kernel
theorem dX4_init_79 : decode cX4_init 79 = .ok (.goto (-31), 3) := by decide +kernel
theorem dX4_init_82 : decode cX4_init 82 = .ok (.return_, 1) := by decide +kernel
theorem dX4_stream_0 : decode cX4_stream 0 = .ok (.iload_n 1, 1) := by decide +kernel
theorem dX4_stream_1 : decode cX4_stream 1 = .ok (.invokestatic 39, 3) := by decide +kernel
theorem dX4_stream_4 : decode cX4_stream 4 = .ok (.ifCond .ne 6, 3) := by decide +kernel
theorem dX4_stream_7 : decode cX4_stream 7 = .ok (.bipush (-101), 2) := by decide +kernel
theorem dX4_stream_9 : decode cX4_stream 9 = .ok (.ireturn, 1) := by decide +kernel
theorem dX4_stream_10 : decode cX4_stream 10 = .ok (.aload_n 0, 1) := by decide +kernel
theorem dX4_stream_11 : decode cX4_stream 11 = .ok (.getfield 32, 3) := by decide +kernel
theorem dX4_stream_14 : decode cX4_stream 14 = .ok (.iload_n 1, 1) := by decide +kernel
theorem dX4_stream_15 : decode cX4_stream 15 = .ok (.aaload, 1) := by decide +kernel
theorem dX4_stream_16 : decode cX4_stream 16 = .ok (.getfield 43, 3) := by decide +kernel
theorem dX4_stream_19 : decode cX4_stream 19 = .ok (.istore_n 3, 1) := by decide +kernel
theorem dX4_stream_20 : decode cX4_stream 20 = .ok (.aload_n 0, 1) := by decide +kernel
theorem dX4_stream_21 : decode cX4_stream 21 = .ok (.getfield 32, 3) := by decide +kernel
theorem dX4_stream_24 : decode cX4_stream 24 = .ok (.iload_n 1, 1) := by decide +kernel
theorem dX4_stream_25 : decode cX4_stream 25 = .ok (.aaload, 1) := by decide +kernel
theorem dX4_stream_26 : decode cX4_stream 26 = .ok (.iload_n 2, 1) := by decide +kernel
theorem dX4_stream_27 : decode cX4_stream 27 = .ok (.putfield 43, 3) := by decide +kernel
theorem dX4_stream_30 : decode cX4_stream 30 = .ok (.iload_n 3, 1) := by decide +kernel
theorem dX4_stream_31 : decode cX4_stream 31 = .ok (.ireturn, 1) := by decide +kernel
theorem dX4_type_0 : decode cX4_type 0 = .ok (.iload_n 1, 1) := by decide +kernel
theorem dX4_type_1 : decode cX4_type 1 = .ok (.invokestatic 39, 3) := by decide +kernel
theorem dX4_type_4 : decode cX4_type 4 = .ok (.ifCond .ne 6, 3) := by decide +kernel
theorem dX4_type_7 : decode cX4_type 7 = .ok (.bipush (-101), 2) := by decide +kernel
theorem dX4_type_9 : decode cX4_type 9 = .ok (.ireturn, 1) := by decide +kernel
theorem dX4_type_10 : decode cX4_type 10 = .ok (.aload_n 0, 1) := by decide +kernel
theorem dX4_type_11 : decode cX4_type 11 = .ok (.getfield 32, 3) := by decide +kernel
theorem dX4_type_14 : decode cX4_type 14 = .ok (.iload_n 1, 1) := by decide +kernel
theorem dX4_type_15 : decode cX4_type 15 = .ok (.aaload, 1) := by decide +kernel
theorem dX4_type_16 : decode cX4_type 16 = .ok (.iload_n 2, 1) := by decide +kernel
theorem dX4_type_17 : decode cX4_type 17 = .ok (.invokevirtual 47, 3) := by decide +kernel
theorem dX4_type_20 : decode cX4_type 20 = .ok (.ifCond .eq 10, 3) := by decide +kernel
theorem dX4_type_23 : decode cX4_type 23 = .ok (.iload_n 3, 1) := by decide +kernel
theorem dX4_type_24 : decode cX4_type 24 = .ok (.invokestatic 50, 3) := by decide +kernel
theorem dX4_type_27 : decode cX4_type 27 = .ok (.ifCond .ne 6, 3) := by decide +kernel
theorem dX4_type_30 : decode cX4_type 30 = .ok (.bipush (-102), 2) := by decide +kernel
theorem dX4_type_32 : decode cX4_type 32 = .ok (.ireturn, 1) := by decide +kernel
theorem dX4_type_33 : decode cX4_type 33 = .ok (.aload_n 0, 1) := by decide +kernel
theorem dX4_type_34 : decode cX4_type 34 = .ok (.aload_n 0, 1) := by decide +kernel
theorem dX4_type_35 : decode cX4_type 35 = .ok (.getfield 32, 3) := by decide +kernel
theorem dX4_type_38 : decode cX4_type 38 = .ok (.iload_n 1, 1) := by decide +kernel
theorem dX4_type_39 : decode cX4_type 39 = .ok (.aaload, 1) := by decide +kernel
theorem dX4_type_40 : decode cX4_type 40 = .ok (.iload_n 2, 1) := by decide +kernel
theorem dX4_type_41 : decode cX4_type 41 = .ok (.iload_n 3, 1) := by decide +kernel
theorem dX4_type_42 : decode cX4_type 42 = .ok (.invokevirtual 53, 3) := by decide +kernel
theorem dX4_type_45 : decode cX4_type 45 = .ok (.ireturn, 1) := by decide +kernel
theorem dX4_paste_0 : decode cX4_paste 0 = .ok (.iload_n 1, 1) := by decide +kernel
theorem dX4_paste_1 : decode cX4_paste 1 = .ok (.invokestatic 39, 3) := by decide +kernel
theorem dX4_paste_4 : decode cX4_paste 4 = .ok (.ifCond .ne 6, 3) := by decide +kernel
theorem dX4_paste_7 : decode cX4_paste 7 = .ok (.bipush (-101), 2) := by decide +kernel
theorem dX4_paste_9 : decode cX4_paste 9 = .ok (.ireturn, 1) := by decide +kernel
theorem dX4_paste_10 : decode cX4_paste 10 = .ok (.aload_n 0, 1) := by decide +kernel
theorem dX4_paste_11 : decode cX4_paste 11 = .ok (.getfield 32, 3) := by decide +kernel
theorem dX4_paste_14 : decode cX4_paste 14 = .ok (.iload_n 1, 1) := by decide +kernel
theorem dX4_paste_15 : decode cX4_paste 15 = .ok (.aaload, 1) := by decide +kernel
theorem dX4_paste_16 : decode cX4_paste 16 = .ok (.iload_n 2, 1) := by decide +kernel
theorem dX4_paste_17 : decode cX4_paste 17 = .ok (.invokevirtual 47, 3) := by decide +kernel
theorem dX4_paste_20 : decode cX4_paste 20 = .ok (.ifCond .eq 22, 3) := by decide +kernel
theorem dX4_paste_23 : decode cX4_paste 23 = .ok (.iload_n 3, 1) := by decide +kernel
theorem dX4_paste_24 : decode cX4_paste 24 = .ok (.iconst 1, 1) := by decide +kernel
theorem dX4_paste_25 : decode cX4_paste 25 = .ok (.if_icmp .lt 17, 3) := by decide +kernel
theorem dX4_paste_28 : decode cX4_paste 28 = .ok (.iload_n 3, 1) := by decide +kernel
theorem dX4_paste_29 : decode cX4_paste 29 = .ok (.bipush 20, 2) := by decide +kernel
theorem dX4_paste_31 : decode cX4_paste 31 = .ok (.if_icmp .gt 11, 3) := by decide +kernel
theorem dX4_paste_34 : decode cX4_paste 34 = .ok (.iload 4, 2) := by decide +kernel
theorem dX4_paste_36 : decode cX4_paste 36 = .ok (.invokestatic 50, 3) := by decide +kernel
theorem dX4_paste_39 : decode cX4_paste 39 = .ok (.ifCond .ne 6, 3) := by decide +kernel
theorem dX4_paste_42 : decode cX4_paste 42 = .ok (.bipush (-102), 2) := by decide +kernel
theorem dX4_paste_44 : decode cX4_paste 44 = .ok (.ireturn, 1) := by decide +kernel
theorem dX4_paste_45 : decode cX4_paste 45 = .ok (.iload 4, 2) := by decide +kernel
theorem dX4_paste_47 : decode cX4_paste 47 = .ok (.istore 5, 2) := by decide +kernel
theorem dX4_paste_49 : decode cX4_paste 49 = .ok (.iconst 0, 1) := by decide +kernel
theorem dX4_paste_50 : decode cX4_paste 50 = .ok (.istore 6, 2) := by decide +kernel
theorem dX4_paste_52 : decode cX4_paste 52 = .ok (.iload 6, 2) := by decide +kernel
theorem dX4_paste_54 : decode cX4_paste 54 = .ok (.iload_n 3, 1) := by decide +kernel
theorem dX4_paste_55 : decode cX4_paste 55 = .ok (.if_icmp .ge 51, 3) := by decide +kernel
theorem dX4_paste_58 : decode cX4_paste 58 = .ok (.aload_n 0, 1) := by decide +kernel
theorem dX4_paste_59 : decode cX4_paste 59 = .ok (.aload_n 0, 1) := by decide +kernel
theorem dX4_paste_60 : decode cX4_paste 60 = .ok (.getfield 32, 3) := by decide +kernel
theorem dX4_paste_63 : decode cX4_paste 63 = .ok (.iload_n 1, 1) := by decide +kernel
theorem dX4_paste_64 : decode cX4_paste 64 = .ok (.aaload, 1) := by decide +kernel
theorem dX4_paste_65 : decode cX4_paste 65 = .ok (.iload_n 2, 1) := by decide +kernel
theorem dX4_paste_66 : decode cX4_paste 66 = .ok (.iload 6, 2) := by decide +kernel
theorem dX4_paste_68 : decode cX4_paste 68 = .ok (.iadd, 1) := by decide +kernel
theorem dX4_paste_69 : decode cX4_paste 69 = .ok (.iload 5, 2) := by decide +kernel
theorem dX4_paste_71 : decode cX4_paste 71 = .ok (.invokevirtual 53, 3) := by decide +kernel
theorem dX4_paste_74 : decode cX4_paste 74 = .ok (.bipush (-104), 2) := by decide +kernel
theorem dX4_paste_76 : decode cX4_paste 76 = .ok (.if_icmp .ne 6, 3) := by decide +kernel
theorem dX4_paste_79 : decode cX4_paste 79 = .ok (.iload 6, 2) := by decide +kernel
theorem dX4_paste_81 : decode cX4_paste 81 = .ok (.ireturn, 1) := by decide +kernel
theorem dX4_paste_82 : decode cX4_paste 82 = .ok (.iload 5, 2) := by decide +kernel
theorem dX4_paste_84 : decode cX4_paste 84 = .ok (.bipush 126, 2) := by decide +kernel
theorem dX4_paste_86 : decode cX4_paste 86 = .ok (.if_icmp .ne 8, 3) := by decide +kernel
theorem dX4_paste_89 : decode cX4_paste 89 = .ok (.bipush 32, 2) := by decide +kernel
theorem dX4_paste_91 : decode cX4_paste 91 = .ok (.goto 7, 3) := by decide +kernel
theorem dX4_paste_94 : decode cX4_paste 94 = .ok (.iload 5, 2) := by decide +kernel
theorem dX4_paste_96 : decode cX4_paste 96 = .ok (.iconst 1, 1) := by decide +kernel
theorem dX4_paste_97 : decode cX4_paste 97 = .ok (.iadd, 1) := by decide +kernel
theorem dX4_paste_98 : decode cX4_paste 98 = .ok (.istore 5, 2) := by decide +kernel
theorem dX4_paste_100 : decode cX4_paste 100 = .ok (.iinc 6 1, 3) := by decide +kernel
theorem dX4_paste_103 : decode cX4_paste 103 = .ok (.goto (-51), 3) := by decide +kernel
theorem dX4_paste_106 : decode cX4_paste 106 = .ok (.iload_n 3, 1) := by decide +kernel
theorem dX4_paste_107 : decode cX4_paste 107 = .ok (.ireturn, 1) := by decide +kernel
theorem dX4_erase_0 : decode cX4_erase 0 = .ok (.iload_n 1, 1) := by decide +kernel
theorem dX4_erase_1 : decode cX4_erase 1 = .ok (.invokestatic 39, 3) := by decide +kernel
theorem dX4_erase_4 : decode cX4_erase 4 = .ok (.ifCond .ne 6, 3) := by decide +kernel
theorem dX4_erase_7 : decode cX4_erase 7 = .ok (.bipush (-101), 2) := by decide +kernel
theorem dX4_erase_9 : decode cX4_erase 9 = .ok (.ireturn, 1) := by decide +kernel
theorem dX4_erase_10 : decode cX4_erase 10 = .ok (.aload_n 0, 1) := by decide +kernel
theorem dX4_erase_11 : decode cX4_erase 11 = .ok (.getfield 32, 3) := by decide +kernel
theorem dX4_erase_14 : decode cX4_erase 14 = .ok (.iload_n 1, 1) := by decide +kernel
theorem dX4_erase_15 : decode cX4_erase 15 = .ok (.aaload, 1) := by decide +kernel
theorem dX4_erase_16 : decode cX4_erase 16 = .ok (.iload_n 2, 1) := by decide +kernel
theorem dX4_erase_17 : decode cX4_erase 17 = .ok (.invokevirtual 57, 3) := by decide +kernel
theorem dX4_erase_20 : decode cX4_erase 20 = .ok (.istore_n 3, 1) := by decide +kernel
theorem dX4_erase_21 : decode cX4_erase 21 = .ok (.iload_n 3, 1) := by decide +kernel
theorem dX4_erase_22 : decode cX4_erase 22 = .ok (.iconst (-1), 1) := by decide +kernel
theorem dX4_erase_23 : decode cX4_erase 23 = .ok (.if_icmp .ne 6, 3) := by decide +kernel
theorem dX4_erase_26 : decode cX4_erase 26 = .ok (.bipush (-102), 2) := by decide +kernel
theorem dX4_erase_28 : decode cX4_erase 28 = .ok (.ireturn, 1) := by decide +kernel
theorem dX4_erase_29 : decode cX4_erase 29 = .ok (.aload_n 0, 1) := by decide +kernel
theorem dX4_erase_30 : decode cX4_erase 30 = .ok (.getfield 10, 3) := by decide +kernel
theorem dX4_erase_33 : decode cX4_erase 33 = .ok (.invokevirtual 61, 3) := by decide +kernel
theorem dX4_erase_36 : decode cX4_erase 36 = .ok (.ifCond .eq 8, 3) := by decide +kernel
theorem dX4_erase_39 : decode cX4_erase 39 = .ok (.bipush (-104), 2) := by decide +kernel
theorem dX4_erase_41 : decode cX4_erase 41 = .ok (.goto 17, 3) := by decide +kernel
theorem dX4_erase_44 : decode cX4_erase 44 = .ok (.aload_n 0, 1) := by decide +kernel
theorem dX4_erase_45 : decode cX4_erase 45 = .ok (.aload_n 0, 1) := by decide +kernel
theorem dX4_erase_46 : decode cX4_erase 46 = .ok (.getfield 32, 3) := by decide +kernel
theorem dX4_erase_49 : decode cX4_erase 49 = .ok (.iload_n 1, 1) := by decide +kernel
theorem dX4_erase_50 : decode cX4_erase 50 = .ok (.aaload, 1) := by decide +kernel
theorem dX4_erase_51 : decode cX4_erase 51 = .ok (.iconst 1, 1) := by decide +kernel
theorem dX4_erase_52 : decode cX4_erase 52 = .ok (.iconst 0, 1) := by decide +kernel
theorem dX4_erase_53 : decode cX4_erase 53 = .ok (.iload_n 3, 1) := by decide +kernel
theorem dX4_erase_54 : decode cX4_erase 54 = .ok (.iload_n 3, 1) := by decide +kernel
theorem dX4_erase_55 : decode cX4_erase 55 = .ok (.invokevirtual 65, 3) := by decide +kernel
theorem dX4_erase_58 : decode cX4_erase 58 = .ok (.ireturn, 1) := by decide +kernel
theorem dX4_undo_0 : decode cX4_undo 0 = .ok (.iload_n 1, 1) := by decide +kernel
theorem dX4_undo_1 : decode cX4_undo 1 = .ok (.invokestatic 39, 3) := by decide +kernel
theorem dX4_undo_4 : decode cX4_undo 4 = .ok (.ifCond .ne 6, 3) := by decide +kernel
theorem dX4_undo_7 : decode cX4_undo 7 = .ok (.bipush (-101), 2) := by decide +kernel
theorem dX4_undo_9 : decode cX4_undo 9 = .ok (.ireturn, 1) := by decide +kernel
theorem dX4_undo_10 : decode cX4_undo 10 = .ok (.aload_n 0, 1) := by decide +kernel
theorem dX4_undo_11 : decode cX4_undo 11 = .ok (.getfield 10, 3) := by decide +kernel
theorem dX4_undo_14 : decode cX4_undo 14 = .ok (.iload_n 1, 1) := by decide +kernel
theorem dX4_undo_15 : decode cX4_undo 15 = .ok (.invokevirtual 69, 3) := by decide +kernel
theorem dX4_undo_18 : decode cX4_undo 18 = .ok (.istore_n 2, 1) := by decide +kernel
theorem dX4_undo_19 : decode cX4_undo 19 = .ok (.iload_n 2, 1) := by decide +kernel
theorem dX4_undo_20 : decode cX4_undo 20 = .ok (.iconst (-1), 1) := by decide +kernel
theorem dX4_undo_21 : decode cX4_undo 21 = .ok (.if_icmp .ne 6, 3) := by decide +kernel
theorem dX4_undo_24 : decode cX4_undo 24 = .ok (.bipush (-103), 2) := by decide +kernel
theorem dX4_undo_26 : decode cX4_undo 26 = .ok (.ireturn, 1) := by decide +kernel
theorem dX4_undo_27 : decode cX4_undo 27 = .ok (.aload_n 0, 1) := by decide +kernel
theorem dX4_undo_28 : decode cX4_undo 28 = .ok (.getfield 10, 3) := by decide +kernel
theorem dX4_undo_31 : decode cX4_undo 31 = .ok (.invokevirtual 61, 3) := by decide +kernel
theorem dX4_undo_34 : decode cX4_undo 34 = .ok (.ifCond .eq 6, 3) := by decide +kernel
theorem dX4_undo_37 : decode cX4_undo 37 = .ok (.bipush (-104), 2) := by decide +kernel
theorem dX4_undo_39 : decode cX4_undo 39 = .ok (.ireturn, 1) := by decide +kernel
theorem dX4_undo_40 : decode cX4_undo 40 = .ok (.aload_n 0, 1) := by decide +kernel
theorem dX4_undo_41 : decode cX4_undo 41 = .ok (.getfield 10, 3) := by decide +kernel
theorem dX4_undo_44 : decode cX4_undo 44 = .ok (.getfield 72, 3) := by decide +kernel
theorem dX4_undo_47 : decode cX4_undo 47 = .ok (.iload_n 2, 1) := by decide +kernel
theorem dX4_undo_48 : decode cX4_undo 48 = .ok (.iaload, 1) := by decide +kernel
theorem dX4_undo_49 : decode cX4_undo 49 = .ok (.istore_n 3, 1) := by decide +kernel
theorem dX4_undo_50 : decode cX4_undo 50 = .ok (.aload_n 0, 1) := by decide +kernel
theorem dX4_undo_51 : decode cX4_undo 51 = .ok (.aload_n 0, 1) := by decide +kernel
theorem dX4_undo_52 : decode cX4_undo 52 = .ok (.getfield 32, 3) := by decide +kernel
theorem dX4_undo_55 : decode cX4_undo 55 = .ok (.iload_n 1, 1) := by decide +kernel
theorem dX4_undo_56 : decode cX4_undo 56 = .ok (.aaload, 1) := by decide +kernel
theorem dX4_undo_57 : decode cX4_undo 57 = .ok (.aload_n 0, 1) := by decide +kernel
theorem dX4_undo_58 : decode cX4_undo 58 = .ok (.getfield 10, 3) := by decide +kernel
theorem dX4_undo_61 : decode cX4_undo 61 = .ok (.getfield 76, 3) := by decide +kernel
theorem dX4_undo_64 : decode cX4_undo 64 = .ok (.iload_n 2, 1) := by decide +kernel
theorem dX4_undo_65 : decode cX4_undo 65 = .ok (.iaload, 1) := by decide +kernel
theorem dX4_undo_66 : decode cX4_undo 66 = .ok (.ifCond .ne 7, 3) := by decide +kernel
theorem dX4_undo_69 : decode cX4_undo 69 = .ok (.iconst 1, 1) := by decide +kernel
theorem dX4_undo_70 : decode cX4_undo 70 = .ok (.goto 4, 3) := by decide +kernel
theorem dX4_undo_73 : decode cX4_undo 73 = .ok (.iconst 2, 1) := by decide +kernel
theorem dX4_undo_74 : decode cX4_undo 74 = .ok (.iconst 0, 1) := by decide +kernel
theorem dX4_undo_75 : decode cX4_undo 75 = .ok (.iload_n 3, 1) := by decide +kernel
theorem dX4_undo_76 : decode cX4_undo 76 = .ok (.iload_n 3, 1) := by decide +kernel
theorem dX4_undo_77 : decode cX4_undo 77 = .ok (.invokevirtual 65, 3) := by decide +kernel
theorem dX4_undo_80 : decode cX4_undo 80 = .ok (.istore 4, 2) := by decide +kernel
theorem dX4_undo_82 : decode cX4_undo 82 = .ok (.aload_n 0, 1) := by decide +kernel
theorem dX4_undo_83 : decode cX4_undo 83 = .ok (.getfield 10, 3) := by decide +kernel
theorem dX4_undo_86 : decode cX4_undo 86 = .ok (.getfield 79, 3) := by decide +kernel
theorem dX4_undo_89 : decode cX4_undo 89 = .ok (.iload_n 2, 1) := by decide +kernel
theorem dX4_undo_90 : decode cX4_undo 90 = .ok (.iconst 0, 1) := by decide +kernel
theorem dX4_undo_91 : decode cX4_undo 91 = .ok (.bastore, 1) := by decide +kernel
theorem dX4_undo_92 : decode cX4_undo 92 = .ok (.aload_n 0, 1) := by decide +kernel
theorem dX4_undo_93 : decode cX4_undo 93 = .ok (.getfield 10, 3) := by decide +kernel
theorem dX4_undo_96 : decode cX4_undo 96 = .ok (.getfield 79, 3) := by decide +kernel
theorem dX4_undo_99 : decode cX4_undo 99 = .ok (.iload 4, 2) := by decide +kernel
theorem dX4_undo_101 : decode cX4_undo 101 = .ok (.iconst 0, 1) := by decide +kernel
theorem dX4_undo_102 : decode cX4_undo 102 = .ok (.bastore, 1) := by decide +kernel
theorem dX4_undo_103 : decode cX4_undo 103 = .ok (.iload 4, 2) := by decide +kernel
theorem dX4_undo_105 : decode cX4_undo 105 = .ok (.ireturn, 1) := by decide +kernel
theorem dX4_mark_0 : decode cX4_mark 0 = .ok (.iload_n 1, 1) := by decide +kernel
theorem dX4_mark_1 : decode cX4_mark 1 = .ok (.invokestatic 39, 3) := by decide +kernel
theorem dX4_mark_4 : decode cX4_mark 4 = .ok (.ifCond .ne 6, 3) := by decide +kernel
theorem dX4_mark_7 : decode cX4_mark 7 = .ok (.bipush (-101), 2) := by decide +kernel
theorem dX4_mark_9 : decode cX4_mark 9 = .ok (.ireturn, 1) := by decide +kernel
theorem dX4_mark_10 : decode cX4_mark 10 = .ok (.aload_n 0, 1) := by decide +kernel
theorem dX4_mark_11 : decode cX4_mark 11 = .ok (.getfield 32, 3) := by decide +kernel
theorem dX4_mark_14 : decode cX4_mark 14 = .ok (.iload_n 1, 1) := by decide +kernel
theorem dX4_mark_15 : decode cX4_mark 15 = .ok (.aaload, 1) := by decide +kernel
theorem dX4_mark_16 : decode cX4_mark 16 = .ok (.iload_n 2, 1) := by decide +kernel
theorem dX4_mark_17 : decode cX4_mark 17 = .ok (.invokevirtual 57, 3) := by decide +kernel
theorem dX4_mark_20 : decode cX4_mark 20 = .ok (.istore 6, 2) := by decide +kernel
theorem dX4_mark_22 : decode cX4_mark 22 = .ok (.aload_n 0, 1) := by decide +kernel
theorem dX4_mark_23 : decode cX4_mark 23 = .ok (.getfield 32, 3) := by decide +kernel
theorem dX4_mark_26 : decode cX4_mark 26 = .ok (.iload_n 1, 1) := by decide +kernel
theorem dX4_mark_27 : decode cX4_mark 27 = .ok (.aaload, 1) := by decide +kernel
theorem dX4_mark_28 : decode cX4_mark 28 = .ok (.iload_n 3, 1) := by decide +kernel
theorem dX4_mark_29 : decode cX4_mark 29 = .ok (.invokevirtual 57, 3) := by decide +kernel
theorem dX4_mark_32 : decode cX4_mark 32 = .ok (.istore 7, 2) := by decide +kernel
theorem dX4_mark_34 : decode cX4_mark 34 = .ok (.iload 6, 2) := by decide +kernel
theorem dX4_mark_36 : decode cX4_mark 36 = .ok (.iconst (-1), 1) := by decide +kernel
theorem dX4_mark_37 : decode cX4_mark 37 = .ok (.if_icmp .eq 26, 3) := by decide +kernel
theorem dX4_mark_40 : decode cX4_mark 40 = .ok (.iload 7, 2) := by decide +kernel
theorem dX4_mark_42 : decode cX4_mark 42 = .ok (.iconst (-1), 1) := by decide +kernel
theorem dX4_mark_43 : decode cX4_mark 43 = .ok (.if_icmp .eq 20, 3) := by decide +kernel
theorem dX4_mark_46 : decode cX4_mark 46 = .ok (.iload_n 2, 1) := by decide +kernel
theorem dX4_mark_47 : decode cX4_mark 47 = .ok (.iload_n 3, 1) := by decide +kernel
theorem dX4_mark_48 : decode cX4_mark 48 = .ok (.if_icmp .gt 15, 3) := by decide +kernel
theorem dX4_mark_51 : decode cX4_mark 51 = .ok (.iload 4, 2) := by decide +kernel
theorem dX4_mark_53 : decode cX4_mark 53 = .ok (.ifCond .lt 10, 3) := by decide +kernel
theorem dX4_mark_56 : decode cX4_mark 56 = .ok (.iload 4, 2) := by decide +kernel
theorem dX4_mark_58 : decode cX4_mark 58 = .ok (.bipush 8, 2) := by decide +kernel
theorem dX4_mark_60 : decode cX4_mark 60 = .ok (.if_icmp .lt 6, 3) := by decide +kernel
theorem dX4_mark_63 : decode cX4_mark 63 = .ok (.bipush (-102), 2) := by decide +kernel
theorem dX4_mark_65 : decode cX4_mark 65 = .ok (.ireturn, 1) := by decide +kernel
theorem dX4_mark_66 : decode cX4_mark 66 = .ok (.aload_n 0, 1) := by decide +kernel
theorem dX4_mark_67 : decode cX4_mark 67 = .ok (.getfield 10, 3) := by decide +kernel
theorem dX4_mark_70 : decode cX4_mark 70 = .ok (.invokevirtual 61, 3) := by decide +kernel
theorem dX4_mark_73 : decode cX4_mark 73 = .ok (.ifCond .eq 6, 3) := by decide +kernel
theorem dX4_mark_76 : decode cX4_mark 76 = .ok (.bipush (-104), 2) := by decide +kernel
theorem dX4_mark_78 : decode cX4_mark 78 = .ok (.ireturn, 1) := by decide +kernel
theorem dX4_mark_79 : decode cX4_mark 79 = .ok (.aload_n 0, 1) := by decide +kernel
theorem dX4_mark_80 : decode cX4_mark 80 = .ok (.aload_n 0, 1) := by decide +kernel
theorem dX4_mark_81 : decode cX4_mark 81 = .ok (.getfield 32, 3) := by decide +kernel
theorem dX4_mark_84 : decode cX4_mark 84 = .ok (.iload_n 1, 1) := by decide +kernel
theorem dX4_mark_85 : decode cX4_mark 85 = .ok (.aaload, 1) := by decide +kernel
theorem dX4_mark_86 : decode cX4_mark 86 = .ok (.iconst 3, 1) := by decide +kernel
theorem dX4_mark_87 : decode cX4_mark 87 = .ok (.iload 5, 2) := by decide +kernel
theorem dX4_mark_89 : decode cX4_mark 89 = .ok (.ifCond .eq 11, 3) := by decide +kernel
theorem dX4_mark_92 : decode cX4_mark 92 = .ok (.iload 4, 2) := by decide +kernel
theorem dX4_mark_94 : decode cX4_mark 94 = .ok (.bipush 8, 2) := by decide +kernel
theorem dX4_mark_96 : decode cX4_mark 96 = .ok (.iadd, 1) := by decide +kernel
theorem dX4_mark_97 : decode cX4_mark 97 = .ok (.goto 5, 3) := by decide +kernel
theorem dX4_mark_100 : decode cX4_mark 100 = .ok (.iload 4, 2) := by decide +kernel
theorem dX4_mark_102 : decode cX4_mark 102 = .ok (.iload 6, 2) := by decide +kernel
theorem dX4_mark_104 : decode cX4_mark 104 = .ok (.iload 7, 2) := by decide +kernel
theorem dX4_mark_106 : decode cX4_mark 106 = .ok (.invokevirtual 65, 3) := by decide +kernel
theorem dX4_mark_109 : decode cX4_mark 109 = .ok (.ireturn, 1) := by decide +kernel
theorem dX4_deliver_0 : decode cX4_deliver 0 = .ok (.aload_n 0, 1) := by decide +kernel
theorem dX4_deliver_1 : decode cX4_deliver 1 = .ok (.getfield 26, 3) := by decide +kernel
theorem dX4_deliver_4 : decode cX4_deliver 4 = .ok (.iload_n 1, 1) := by decide +kernel
theorem dX4_deliver_5 : decode cX4_deliver 5 = .ok (.invokevirtual 83, 3) := by decide +kernel
theorem dX4_deliver_8 : decode cX4_deliver 8 = .ok (.ifCond .ne 6, 3) := by decide +kernel
theorem dX4_deliver_11 : decode cX4_deliver 11 = .ok (.bipush (-101), 2) := by decide +kernel
theorem dX4_deliver_13 : decode cX4_deliver 13 = .ok (.ireturn, 1) := by decide +kernel
theorem dX4_deliver_14 : decode cX4_deliver 14 = .ok (.aload_n 0, 1) := by decide +kernel
theorem dX4_deliver_15 : decode cX4_deliver 15 = .ok (.getfield 26, 3) := by decide +kernel
theorem dX4_deliver_18 : decode cX4_deliver 18 = .ok (.getfield 86, 3) := by decide +kernel
theorem dX4_deliver_21 : decode cX4_deliver 21 = .ok (.iload_n 1, 1) := by decide +kernel
theorem dX4_deliver_22 : decode cX4_deliver 22 = .ok (.iaload, 1) := by decide +kernel
theorem dX4_deliver_23 : decode cX4_deliver 23 = .ok (.istore_n 2, 1) := by decide +kernel
theorem dX4_deliver_24 : decode cX4_deliver 24 = .ok (.aload_n 0, 1) := by decide +kernel
theorem dX4_deliver_25 : decode cX4_deliver 25 = .ok (.getfield 26, 3) := by decide +kernel
theorem dX4_deliver_28 : decode cX4_deliver 28 = .ok (.getfield 89, 3) := by decide +kernel
theorem dX4_deliver_31 : decode cX4_deliver 31 = .ok (.iload_n 1, 1) := by decide +kernel
theorem dX4_deliver_32 : decode cX4_deliver 32 = .ok (.iaload, 1) := by decide +kernel
theorem dX4_deliver_33 : decode cX4_deliver 33 = .ok (.istore_n 3, 1) := by decide +kernel
theorem dX4_deliver_34 : decode cX4_deliver 34 = .ok (.aload_n 0, 1) := by decide +kernel
theorem dX4_deliver_35 : decode cX4_deliver 35 = .ok (.getfield 26, 3) := by decide +kernel
theorem dX4_deliver_38 : decode cX4_deliver 38 = .ok (.iload_n 1, 1) := by decide +kernel
theorem dX4_deliver_39 : decode cX4_deliver 39 = .ok (.invokevirtual 92, 3) := by decide +kernel
theorem dX4_deliver_42 : decode cX4_deliver 42 = .ok (.aload_n 0, 1) := by decide +kernel
theorem dX4_deliver_43 : decode cX4_deliver 43 = .ok (.getfield 32, 3) := by decide +kernel
theorem dX4_deliver_46 : decode cX4_deliver 46 = .ok (.iload_n 3, 1) := by decide +kernel
theorem dX4_deliver_47 : decode cX4_deliver 47 = .ok (.aaload, 1) := by decide +kernel
theorem dX4_deliver_48 : decode cX4_deliver 48 = .ok (.iload_n 2, 1) := by decide +kernel
theorem dX4_deliver_49 : decode cX4_deliver 49 = .ok (.invokevirtual 96, 3) := by decide +kernel
theorem dX4_deliver_52 : decode cX4_deliver 52 = .ok (.ireturn, 1) := by decide +kernel
theorem dX4_lose_0 : decode cX4_lose 0 = .ok (.aload_n 0, 1) := by decide +kernel
theorem dX4_lose_1 : decode cX4_lose 1 = .ok (.getfield 26, 3) := by decide +kernel
theorem dX4_lose_4 : decode cX4_lose 4 = .ok (.iload_n 1, 1) := by decide +kernel
theorem dX4_lose_5 : decode cX4_lose 5 = .ok (.invokevirtual 83, 3) := by decide +kernel
theorem dX4_lose_8 : decode cX4_lose 8 = .ok (.ifCond .ne 6, 3) := by decide +kernel
theorem dX4_lose_11 : decode cX4_lose 11 = .ok (.bipush (-101), 2) := by decide +kernel
theorem dX4_lose_13 : decode cX4_lose 13 = .ok (.ireturn, 1) := by decide +kernel
theorem dX4_lose_14 : decode cX4_lose 14 = .ok (.aload_n 0, 1) := by decide +kernel
theorem dX4_lose_15 : decode cX4_lose 15 = .ok (.getfield 26, 3) := by decide +kernel
theorem dX4_lose_18 : decode cX4_lose 18 = .ok (.iload_n 1, 1) := by decide +kernel
theorem dX4_lose_19 : decode cX4_lose 19 = .ok (.invokevirtual 92, 3) := by decide +kernel
theorem dX4_lose_22 : decode cX4_lose 22 = .ok (.aload_n 0, 1) := by decide +kernel
theorem dX4_lose_23 : decode cX4_lose 23 = .ok (.getfield 26, 3) := by decide +kernel
theorem dX4_lose_26 : decode cX4_lose 26 = .ok (.getfield 99, 3) := by decide +kernel
theorem dX4_lose_29 : decode cX4_lose 29 = .ok (.ireturn, 1) := by decide +kernel
theorem dX4_repeat_0 : decode cX4_repeat 0 = .ok (.aload_n 0, 1) := by decide +kernel
theorem dX4_repeat_1 : decode cX4_repeat 1 = .ok (.getfield 26, 3) := by decide +kernel
theorem dX4_repeat_4 : decode cX4_repeat 4 = .ok (.iload_n 1, 1) := by decide +kernel
theorem dX4_repeat_5 : decode cX4_repeat 5 = .ok (.invokevirtual 83, 3) := by decide +kernel
theorem dX4_repeat_8 : decode cX4_repeat 8 = .ok (.ifCond .ne 6, 3) := by decide +kernel
theorem dX4_repeat_11 : decode cX4_repeat 11 = .ok (.bipush (-101), 2) := by decide +kernel
theorem dX4_repeat_13 : decode cX4_repeat 13 = .ok (.ireturn, 1) := by decide +kernel
theorem dX4_repeat_14 : decode cX4_repeat 14 = .ok (.aload_n 0, 1) := by decide +kernel
theorem dX4_repeat_15 : decode cX4_repeat 15 = .ok (.getfield 26, 3) := by decide +kernel
theorem dX4_repeat_18 : decode cX4_repeat 18 = .ok (.invokevirtual 102, 3) := by decide +kernel
theorem dX4_repeat_21 : decode cX4_repeat 21 = .ok (.ifCond .eq 6, 3) := by decide +kernel
theorem dX4_repeat_24 : decode cX4_repeat 24 = .ok (.bipush (-104), 2) := by decide +kernel
theorem dX4_repeat_26 : decode cX4_repeat 26 = .ok (.ireturn, 1) := by decide +kernel
theorem dX4_repeat_27 : decode cX4_repeat 27 = .ok (.aload_n 0, 1) := by decide +kernel
theorem dX4_repeat_28 : decode cX4_repeat 28 = .ok (.getfield 26, 3) := by decide +kernel
theorem dX4_repeat_31 : decode cX4_repeat 31 = .ok (.aload_n 0, 1) := by decide +kernel
theorem dX4_repeat_32 : decode cX4_repeat 32 = .ok (.getfield 26, 3) := by decide +kernel
theorem dX4_repeat_35 : decode cX4_repeat 35 = .ok (.getfield 86, 3) := by decide +kernel
theorem dX4_repeat_38 : decode cX4_repeat 38 = .ok (.iload_n 1, 1) := by decide +kernel
theorem dX4_repeat_39 : decode cX4_repeat 39 = .ok (.iaload, 1) := by decide +kernel
theorem dX4_repeat_40 : decode cX4_repeat 40 = .ok (.aload_n 0, 1) := by decide +kernel
theorem dX4_repeat_41 : decode cX4_repeat 41 = .ok (.getfield 26, 3) := by decide +kernel
theorem dX4_repeat_44 : decode cX4_repeat 44 = .ok (.getfield 89, 3) := by decide +kernel
theorem dX4_repeat_47 : decode cX4_repeat 47 = .ok (.iload_n 1, 1) := by decide +kernel
theorem dX4_repeat_48 : decode cX4_repeat 48 = .ok (.iaload, 1) := by decide +kernel
theorem dX4_repeat_49 : decode cX4_repeat 49 = .ok (.invokevirtual 103, 3) := by decide +kernel
theorem dX4_repeat_52 : decode cX4_repeat 52 = .ok (.aload_n 0, 1) := by decide +kernel
theorem dX4_repeat_53 : decode cX4_repeat 53 = .ok (.getfield 26, 3) := by decide +kernel
theorem dX4_repeat_56 : decode cX4_repeat 56 = .ok (.getfield 99, 3) := by decide +kernel
theorem dX4_repeat_59 : decode cX4_repeat 59 = .ok (.ireturn, 1) := by decide +kernel
theorem dX4_sync_0 : decode cX4_sync 0 = .ok (.iload_n 1, 1) := by decide +kernel
theorem dX4_sync_1 : decode cX4_sync 1 = .ok (.invokestatic 39, 3) := by decide +kernel
theorem dX4_sync_4 : decode cX4_sync 4 = .ok (.ifCond .eq 10, 3) := by decide +kernel
theorem dX4_sync_7 : decode cX4_sync 7 = .ok (.iload_n 2, 1) := by decide +kernel
theorem dX4_sync_8 : decode cX4_sync 8 = .ok (.invokestatic 39, 3) := by decide +kernel
theorem dX4_sync_11 : decode cX4_sync 11 = .ok (.ifCond .ne 6, 3) := by decide +kernel
theorem dX4_sync_14 : decode cX4_sync 14 = .ok (.bipush (-101), 2) := by decide +kernel
theorem dX4_sync_16 : decode cX4_sync 16 = .ok (.ireturn, 1) := by decide +kernel
theorem dX4_sync_17 : decode cX4_sync 17 = .ok (.aload_n 0, 1) := by decide +kernel
theorem dX4_sync_18 : decode cX4_sync 18 = .ok (.getfield 32, 3) := by decide +kernel
theorem dX4_sync_21 : decode cX4_sync 21 = .ok (.iload_n 1, 1) := by decide +kernel
theorem dX4_sync_22 : decode cX4_sync 22 = .ok (.aaload, 1) := by decide +kernel
theorem dX4_sync_23 : decode cX4_sync 23 = .ok (.astore_n 3, 1) := by decide +kernel
theorem dX4_sync_24 : decode cX4_sync 24 = .ok (.aload_n 3, 1) := by decide +kernel
theorem dX4_sync_25 : decode cX4_sync 25 = .ok (.invokevirtual 107, 3) := by decide +kernel
theorem dX4_sync_28 : decode cX4_sync 28 = .ok (.istore 4, 2) := by decide +kernel
theorem dX4_sync_30 : decode cX4_sync 30 = .ok (.iconst 0, 1) := by decide +kernel
theorem dX4_sync_31 : decode cX4_sync 31 = .ok (.istore 5, 2) := by decide +kernel
theorem dX4_sync_33 : decode cX4_sync 33 = .ok (.iload 5, 2) := by decide +kernel
theorem dX4_sync_35 : decode cX4_sync 35 = .ok (.aload_n 0, 1) := by decide +kernel
theorem dX4_sync_36 : decode cX4_sync 36 = .ok (.getfield 10, 3) := by decide +kernel
theorem dX4_sync_39 : decode cX4_sync 39 = .ok (.getfield 111, 3) := by decide +kernel
theorem dX4_sync_42 : decode cX4_sync 42 = .ok (.if_icmp .ge 30, 3) := by decide +kernel
theorem dX4_sync_45 : decode cX4_sync 45 = .ok (.aload_n 0, 1) := by decide +kernel
theorem dX4_sync_46 : decode cX4_sync 46 = .ok (.getfield 32, 3) := by decide +kernel
theorem dX4_sync_49 : decode cX4_sync 49 = .ok (.iload_n 2, 1) := by decide +kernel
theorem dX4_sync_50 : decode cX4_sync 50 = .ok (.aaload, 1) := by decide +kernel
theorem dX4_sync_51 : decode cX4_sync 51 = .ok (.iload 5, 2) := by decide +kernel
theorem dX4_sync_53 : decode cX4_sync 53 = .ok (.invokevirtual 112, 3) := by decide +kernel
theorem dX4_sync_56 : decode cX4_sync 56 = .ok (.ifCond .eq 10, 3) := by decide +kernel
theorem dX4_sync_59 : decode cX4_sync 59 = .ok (.aload_n 3, 1) := by decide +kernel
theorem dX4_sync_60 : decode cX4_sync 60 = .ok (.iload 5, 2) := by decide +kernel
theorem dX4_sync_62 : decode cX4_sync 62 = .ok (.invokevirtual 96, 3) := by decide +kernel
theorem dX4_sync_65 : decode cX4_sync 65 = .ok (.pop, 1) := by decide +kernel
theorem dX4_sync_66 : decode cX4_sync 66 = .ok (.iinc 5 1, 3) := by decide +kernel
theorem dX4_sync_69 : decode cX4_sync 69 = .ok (.goto (-36), 3) := by decide +kernel
theorem dX4_sync_72 : decode cX4_sync 72 = .ok (.aload_n 3, 1) := by decide +kernel
theorem dX4_sync_73 : decode cX4_sync 73 = .ok (.invokevirtual 107, 3) := by decide +kernel
theorem dX4_sync_76 : decode cX4_sync 76 = .ok (.iload 4, 2) := by decide +kernel
theorem dX4_sync_78 : decode cX4_sync 78 = .ok (.isub, 1) := by decide +kernel
theorem dX4_sync_79 : decode cX4_sync 79 = .ok (.ireturn, 1) := by decide +kernel
theorem dX4_length_0 : decode cX4_length 0 = .ok (.iload_n 1, 1) := by decide +kernel
theorem dX4_length_1 : decode cX4_length 1 = .ok (.invokestatic 39, 3) := by decide +kernel
theorem dX4_length_4 : decode cX4_length 4 = .ok (.ifCond .eq 15, 3) := by decide +kernel
theorem dX4_length_7 : decode cX4_length 7 = .ok (.aload_n 0, 1) := by decide +kernel
theorem dX4_length_8 : decode cX4_length 8 = .ok (.getfield 32, 3) := by decide +kernel
theorem dX4_length_11 : decode cX4_length 11 = .ok (.iload_n 1, 1) := by decide +kernel
theorem dX4_length_12 : decode cX4_length 12 = .ok (.aaload, 1) := by decide +kernel
theorem dX4_length_13 : decode cX4_length 13 = .ok (.invokevirtual 115, 3) := by decide +kernel
theorem dX4_length_16 : decode cX4_length 16 = .ok (.goto 5, 3) := by decide +kernel
theorem dX4_length_19 : decode cX4_length 19 = .ok (.bipush (-101), 2) := by decide +kernel
theorem dX4_length_21 : decode cX4_length 21 = .ok (.ireturn, 1) := by decide +kernel
theorem dX4_sign_0 : decode cX4_sign 0 = .ok (.aload_n 0, 1) := by decide +kernel
theorem dX4_sign_1 : decode cX4_sign 1 = .ok (.getfield 10, 3) := by decide +kernel
theorem dX4_sign_4 : decode cX4_sign 4 = .ok (.getfield 118, 3) := by decide +kernel
theorem dX4_sign_7 : decode cX4_sign 7 = .ok (.aload_n 0, 1) := by decide +kernel
theorem dX4_sign_8 : decode cX4_sign 8 = .ok (.iload_n 1, 1) := by decide +kernel
theorem dX4_sign_9 : decode cX4_sign 9 = .ok (.iload_n 2, 1) := by decide +kernel
theorem dX4_sign_10 : decode cX4_sign 10 = .ok (.invokevirtual 121, 3) := by decide +kernel
theorem dX4_sign_13 : decode cX4_sign 13 = .ok (.iaload, 1) := by decide +kernel
theorem dX4_sign_14 : decode cX4_sign 14 = .ok (.ireturn, 1) := by decide +kernel
theorem dX4_path_0 : decode cX4_path 0 = .ok (.aload_n 0, 1) := by decide +kernel
theorem dX4_path_1 : decode cX4_path 1 = .ok (.iload_n 1, 1) := by decide +kernel
theorem dX4_path_2 : decode cX4_path 2 = .ok (.iload_n 2, 1) := by decide +kernel
theorem dX4_path_3 : decode cX4_path 3 = .ok (.invokevirtual 121, 3) := by decide +kernel
theorem dX4_path_6 : decode cX4_path 6 = .ok (.istore 5, 2) := by decide +kernel
theorem dX4_path_8 : decode cX4_path 8 = .ok (.aload_n 0, 1) := by decide +kernel
theorem dX4_path_9 : decode cX4_path 9 = .ok (.getfield 19, 3) := by decide +kernel
theorem dX4_path_12 : decode cX4_path 12 = .ok (.getfield 125, 3) := by decide +kernel
theorem dX4_path_15 : decode cX4_path 15 = .ok (.iload 5, 2) := by decide +kernel
theorem dX4_path_17 : decode cX4_path 17 = .ok (.iaload, 1) := by decide +kernel
theorem dX4_path_18 : decode cX4_path 18 = .ok (.istore 6, 2) := by decide +kernel
theorem dX4_path_20 : decode cX4_path 20 = .ok (.iload 4, 2) := by decide +kernel
theorem dX4_path_22 : decode cX4_path 22 = .ok (.ifCond .ne 6, 3) := by decide +kernel
theorem dX4_path_25 : decode cX4_path 25 = .ok (.iload 6, 2) := by decide +kernel
theorem dX4_path_27 : decode cX4_path 27 = .ok (.ireturn, 1) := by decide +kernel
theorem dX4_path_28 : decode cX4_path 28 = .ok (.iload 4, 2) := by decide +kernel
theorem dX4_path_30 : decode cX4_path 30 = .ok (.ifCond .lt 20, 3) := by decide +kernel
theorem dX4_path_33 : decode cX4_path 33 = .ok (.iload 4, 2) := by decide +kernel
theorem dX4_path_35 : decode cX4_path 35 = .ok (.iconst 3, 1) := by decide +kernel
theorem dX4_path_36 : decode cX4_path 36 = .ok (.if_icmp .gt 14, 3) := by decide +kernel
theorem dX4_path_39 : decode cX4_path 39 = .ok (.iload_n 3, 1) := by decide +kernel
theorem dX4_path_40 : decode cX4_path 40 = .ok (.iconst 1, 1) := by decide +kernel
theorem dX4_path_41 : decode cX4_path 41 = .ok (.if_icmp .lt 9, 3) := by decide +kernel
theorem dX4_path_44 : decode cX4_path 44 = .ok (.iload_n 3, 1) := by decide +kernel
theorem dX4_path_45 : decode cX4_path 45 = .ok (.iload 6, 2) := by decide +kernel
theorem dX4_path_47 : decode cX4_path 47 = .ok (.if_icmp .le 13, 3) := by decide +kernel
theorem dX4_path_50 : decode cX4_path 50 = .ok (.new 128, 3) := by decide +kernel
theorem dX4_path_53 : decode cX4_path 53 = .ok (.dup, 1) := by decide +kernel
theorem dX4_path_54 : decode cX4_path 54 = .ok (.ldc 130, 2) := by decide +kernel
theorem dX4_path_56 : decode cX4_path 56 = .ok (.invokespecial 132, 3) := by decide +kernel
theorem dX4_path_59 : decode cX4_path 59 = .ok (.athrow, 1) := by decide +kernel
theorem dX4_path_60 : decode cX4_path 60 = .ok (.aload_n 0, 1) := by decide +kernel
theorem dX4_path_61 : decode cX4_path 61 = .ok (.getfield 19, 3) := by decide +kernel
theorem dX4_path_64 : decode cX4_path 64 = .ok (.iload 5, 2) := by decide +kernel
theorem dX4_path_66 : decode cX4_path 66 = .ok (.iload_n 3, 1) := by decide +kernel
theorem dX4_path_67 : decode cX4_path 67 = .ok (.invokevirtual 135, 3) := by decide +kernel
theorem dX4_path_70 : decode cX4_path 70 = .ok (.istore 7, 2) := by decide +kernel
theorem dX4_path_72 : decode cX4_path 72 = .ok (.iload 4, 2) := by decide +kernel
theorem dX4_path_74 : decode cX4_path 74 = .ok (.iconst 1, 1) := by decide +kernel
theorem dX4_path_75 : decode cX4_path 75 = .ok (.if_icmp .ne 11, 3) := by decide +kernel
theorem dX4_path_78 : decode cX4_path 78 = .ok (.iload 7, 2) := by decide +kernel
theorem dX4_path_80 : decode cX4_path 80 = .ok (.invokestatic 138, 3) := by decide +kernel
theorem dX4_path_83 : decode cX4_path 83 = .ok (.goto 22, 3) := by decide +kernel
theorem dX4_path_86 : decode cX4_path 86 = .ok (.iload 4, 2) := by decide +kernel
theorem dX4_path_88 : decode cX4_path 88 = .ok (.iconst 2, 1) := by decide +kernel
theorem dX4_path_89 : decode cX4_path 89 = .ok (.if_icmp .ne 11, 3) := by decide +kernel
theorem dX4_path_92 : decode cX4_path 92 = .ok (.iload 7, 2) := by decide +kernel
theorem dX4_path_94 : decode cX4_path 94 = .ok (.invokestatic 141, 3) := by decide +kernel
theorem dX4_path_97 : decode cX4_path 97 = .ok (.goto 8, 3) := by decide +kernel
theorem dX4_path_100 : decode cX4_path 100 = .ok (.iload 7, 2) := by decide +kernel
theorem dX4_path_102 : decode cX4_path 102 = .ok (.invokestatic 144, 3) := by decide +kernel
theorem dX4_path_105 : decode cX4_path 105 = .ok (.ireturn, 1) := by decide +kernel
theorem dX4_kinds_0 : decode cX4_kinds 0 = .ok (.aload_n 0, 1) := by decide +kernel
theorem dX4_kinds_1 : decode cX4_kinds 1 = .ok (.iload_n 1, 1) := by decide +kernel
theorem dX4_kinds_2 : decode cX4_kinds 2 = .ok (.iload_n 2, 1) := by decide +kernel
theorem dX4_kinds_3 : decode cX4_kinds 3 = .ok (.invokevirtual 121, 3) := by decide +kernel
theorem dX4_kinds_6 : decode cX4_kinds 6 = .ok (.istore_n 3, 1) := by decide +kernel
theorem dX4_kinds_7 : decode cX4_kinds 7 = .ok (.aload_n 0, 1) := by decide +kernel
theorem dX4_kinds_8 : decode cX4_kinds 8 = .ok (.getfield 32, 3) := by decide +kernel
theorem dX4_kinds_11 : decode cX4_kinds 11 = .ok (.iload_n 1, 1) := by decide +kernel
theorem dX4_kinds_12 : decode cX4_kinds 12 = .ok (.aaload, 1) := by decide +kernel
theorem dX4_kinds_13 : decode cX4_kinds 13 = .ok (.iload_n 3, 1) := by decide +kernel
theorem dX4_kinds_14 : decode cX4_kinds 14 = .ok (.invokevirtual 147, 3) := by decide +kernel
theorem dX4_kinds_17 : decode cX4_kinds 17 = .ok (.ireturn, 1) := by decide +kernel
theorem dX4_cursor_0 : decode cX4_cursor 0 = .ok (.iload_n 1, 1) := by decide +kernel
theorem dX4_cursor_1 : decode cX4_cursor 1 = .ok (.invokestatic 39, 3) := by decide +kernel
theorem dX4_cursor_4 : decode cX4_cursor 4 = .ok (.ifCond .ne 6, 3) := by decide +kernel
theorem dX4_cursor_7 : decode cX4_cursor 7 = .ok (.bipush (-101), 2) := by decide +kernel
theorem dX4_cursor_9 : decode cX4_cursor 9 = .ok (.ireturn, 1) := by decide +kernel
theorem dX4_cursor_10 : decode cX4_cursor 10 = .ok (.iload_n 2, 1) := by decide +kernel
theorem dX4_cursor_11 : decode cX4_cursor 11 = .ok (.invokestatic 150, 3) := by decide +kernel
theorem dX4_cursor_14 : decode cX4_cursor 14 = .ok (.ifCond .eq 16, 3) := by decide +kernel
theorem dX4_cursor_17 : decode cX4_cursor 17 = .ok (.aload_n 0, 1) := by decide +kernel
theorem dX4_cursor_18 : decode cX4_cursor 18 = .ok (.getfield 32, 3) := by decide +kernel
theorem dX4_cursor_21 : decode cX4_cursor 21 = .ok (.iload_n 1, 1) := by decide +kernel
theorem dX4_cursor_22 : decode cX4_cursor 22 = .ok (.aaload, 1) := by decide +kernel
theorem dX4_cursor_23 : decode cX4_cursor 23 = .ok (.iload_n 3, 1) := by decide +kernel
theorem dX4_cursor_24 : decode cX4_cursor 24 = .ok (.invokevirtual 47, 3) := by decide +kernel
theorem dX4_cursor_27 : decode cX4_cursor 27 = .ok (.ifCond .ne 6, 3) := by decide +kernel
theorem dX4_cursor_30 : decode cX4_cursor 30 = .ok (.bipush (-102), 2) := by decide +kernel
theorem dX4_cursor_32 : decode cX4_cursor 32 = .ok (.ireturn, 1) := by decide +kernel
theorem dX4_cursor_33 : decode cX4_cursor 33 = .ok (.aload_n 0, 1) := by decide +kernel
theorem dX4_cursor_34 : decode cX4_cursor 34 = .ok (.getfield 32, 3) := by decide +kernel
theorem dX4_cursor_37 : decode cX4_cursor 37 = .ok (.iload_n 1, 1) := by decide +kernel
theorem dX4_cursor_38 : decode cX4_cursor 38 = .ok (.aaload, 1) := by decide +kernel
theorem dX4_cursor_39 : decode cX4_cursor 39 = .ok (.iload_n 2, 1) := by decide +kernel
theorem dX4_cursor_40 : decode cX4_cursor 40 = .ok (.invokevirtual 153, 3) := by decide +kernel
theorem dX4_cursor_43 : decode cX4_cursor 43 = .ok (.istore 4, 2) := by decide +kernel
theorem dX4_cursor_45 : decode cX4_cursor 45 = .ok (.aload_n 0, 1) := by decide +kernel
theorem dX4_cursor_46 : decode cX4_cursor 46 = .ok (.getfield 32, 3) := by decide +kernel
theorem dX4_cursor_49 : decode cX4_cursor 49 = .ok (.iload_n 1, 1) := by decide +kernel
theorem dX4_cursor_50 : decode cX4_cursor 50 = .ok (.aaload, 1) := by decide +kernel
theorem dX4_cursor_51 : decode cX4_cursor 51 = .ok (.getfield 156, 3) := by decide +kernel
theorem dX4_cursor_54 : decode cX4_cursor 54 = .ok (.iload_n 2, 1) := by decide +kernel
theorem dX4_cursor_55 : decode cX4_cursor 55 = .ok (.aload_n 0, 1) := by decide +kernel
theorem dX4_cursor_56 : decode cX4_cursor 56 = .ok (.getfield 32, 3) := by decide +kernel
theorem dX4_cursor_59 : decode cX4_cursor 59 = .ok (.iload_n 1, 1) := by decide +kernel
theorem dX4_cursor_60 : decode cX4_cursor 60 = .ok (.aaload, 1) := by decide +kernel
theorem dX4_cursor_61 : decode cX4_cursor 61 = .ok (.iload_n 3, 1) := by decide +kernel
theorem dX4_cursor_62 : decode cX4_cursor 62 = .ok (.invokevirtual 159, 3) := by decide +kernel
theorem dX4_cursor_65 : decode cX4_cursor 65 = .ok (.iastore, 1) := by decide +kernel
theorem dX4_cursor_66 : decode cX4_cursor 66 = .ok (.iload 4, 2) := by decide +kernel
theorem dX4_cursor_68 : decode cX4_cursor 68 = .ok (.ireturn, 1) := by decide +kernel
theorem dX4_at_0 : decode cX4_at 0 = .ok (.iload_n 1, 1) := by decide +kernel
theorem dX4_at_1 : decode cX4_at 1 = .ok (.invokestatic 39, 3) := by decide +kernel
theorem dX4_at_4 : decode cX4_at 4 = .ok (.ifCond .ne 6, 3) := by decide +kernel
theorem dX4_at_7 : decode cX4_at 7 = .ok (.bipush (-101), 2) := by decide +kernel
theorem dX4_at_9 : decode cX4_at 9 = .ok (.ireturn, 1) := by decide +kernel
theorem dX4_at_10 : decode cX4_at 10 = .ok (.iload_n 2, 1) := by decide +kernel
theorem dX4_at_11 : decode cX4_at 11 = .ok (.invokestatic 150, 3) := by decide +kernel
theorem dX4_at_14 : decode cX4_at 14 = .ok (.ifCond .eq 16, 3) := by decide +kernel
theorem dX4_at_17 : decode cX4_at 17 = .ok (.aload_n 0, 1) := by decide +kernel
theorem dX4_at_18 : decode cX4_at 18 = .ok (.getfield 32, 3) := by decide +kernel
theorem dX4_at_21 : decode cX4_at 21 = .ok (.iload_n 1, 1) := by decide +kernel
theorem dX4_at_22 : decode cX4_at 22 = .ok (.aaload, 1) := by decide +kernel
theorem dX4_at_23 : decode cX4_at 23 = .ok (.iload_n 2, 1) := by decide +kernel
theorem dX4_at_24 : decode cX4_at 24 = .ok (.invokevirtual 153, 3) := by decide +kernel
theorem dX4_at_27 : decode cX4_at 27 = .ok (.goto 5, 3) := by decide +kernel
theorem dX4_at_30 : decode cX4_at 30 = .ok (.bipush (-102), 2) := by decide +kernel
theorem dX4_at_32 : decode cX4_at 32 = .ok (.ireturn, 1) := by decide +kernel
theorem dX4_about_0 : decode cX4_about 0 = .ok (.iload_n 1, 1) := by decide +kernel
theorem dX4_about_1 : decode cX4_about 1 = .ok (.invokestatic 39, 3) := by decide +kernel
theorem dX4_about_4 : decode cX4_about 4 = .ok (.ifCond .ne 6, 3) := by decide +kernel
theorem dX4_about_7 : decode cX4_about 7 = .ok (.bipush (-101), 2) := by decide +kernel
theorem dX4_about_9 : decode cX4_about 9 = .ok (.ireturn, 1) := by decide +kernel
theorem dX4_about_10 : decode cX4_about 10 = .ok (.iload_n 3, 1) := by decide +kernel
theorem dX4_about_11 : decode cX4_about 11 = .ok (.tableswitch 83 0 3 #[29, 53, 63, 73], 29) := by decide +kernel
theorem dX4_about_40 : decode cX4_about 40 = .ok (.iload_n 2, 1) := by decide +kernel
theorem dX4_about_41 : decode cX4_about 41 = .ok (.invokestatic 39, 3) := by decide +kernel
theorem dX4_about_44 : decode cX4_about 44 = .ok (.ifCond .eq 17, 3) := by decide +kernel
theorem dX4_about_47 : decode cX4_about 47 = .ok (.aload_n 0, 1) := by decide +kernel
theorem dX4_about_48 : decode cX4_about 48 = .ok (.getfield 32, 3) := by decide +kernel
theorem dX4_about_51 : decode cX4_about 51 = .ok (.iload_n 1, 1) := by decide +kernel
theorem dX4_about_52 : decode cX4_about 52 = .ok (.aaload, 1) := by decide +kernel
theorem dX4_about_53 : decode cX4_about 53 = .ok (.getfield 162, 3) := by decide +kernel
theorem dX4_about_56 : decode cX4_about 56 = .ok (.iload_n 2, 1) := by decide +kernel
theorem dX4_about_57 : decode cX4_about 57 = .ok (.iaload, 1) := by decide +kernel
theorem dX4_about_58 : decode cX4_about 58 = .ok (.goto 5, 3) := by decide +kernel
theorem dX4_about_61 : decode cX4_about 61 = .ok (.bipush (-101), 2) := by decide +kernel
theorem dX4_about_63 : decode cX4_about 63 = .ok (.ireturn, 1) := by decide +kernel
theorem dX4_about_64 : decode cX4_about 64 = .ok (.aload_n 0, 1) := by decide +kernel
theorem dX4_about_65 : decode cX4_about 65 = .ok (.getfield 32, 3) := by decide +kernel
theorem dX4_about_68 : decode cX4_about 68 = .ok (.iload_n 1, 1) := by decide +kernel
theorem dX4_about_69 : decode cX4_about 69 = .ok (.aaload, 1) := by decide +kernel
theorem dX4_about_70 : decode cX4_about 70 = .ok (.getfield 165, 3) := by decide +kernel
theorem dX4_about_73 : decode cX4_about 73 = .ok (.ireturn, 1) := by decide +kernel
theorem dX4_about_74 : decode cX4_about 74 = .ok (.aload_n 0, 1) := by decide +kernel
theorem dX4_about_75 : decode cX4_about 75 = .ok (.getfield 32, 3) := by decide +kernel
theorem dX4_about_78 : decode cX4_about 78 = .ok (.iload_n 1, 1) := by decide +kernel
theorem dX4_about_79 : decode cX4_about 79 = .ok (.aaload, 1) := by decide +kernel
theorem dX4_about_80 : decode cX4_about 80 = .ok (.getfield 168, 3) := by decide +kernel
theorem dX4_about_83 : decode cX4_about 83 = .ok (.ireturn, 1) := by decide +kernel
theorem dX4_about_84 : decode cX4_about 84 = .ok (.aload_n 0, 1) := by decide +kernel
theorem dX4_about_85 : decode cX4_about 85 = .ok (.getfield 32, 3) := by decide +kernel
theorem dX4_about_88 : decode cX4_about 88 = .ok (.iload_n 1, 1) := by decide +kernel
theorem dX4_about_89 : decode cX4_about 89 = .ok (.aaload, 1) := by decide +kernel
theorem dX4_about_90 : decode cX4_about 90 = .ok (.getfield 171, 3) := by decide +kernel
theorem dX4_about_93 : decode cX4_about 93 = .ok (.ireturn, 1) := by decide +kernel
theorem dX4_about_94 : decode cX4_about 94 = .ok (.bipush (-102), 2) := by decide +kernel
theorem dX4_about_96 : decode cX4_about 96 = .ok (.ireturn, 1) := by decide +kernel
theorem dX4_same_0 : decode cX4_same 0 = .ok (.iload_n 1, 1) := by decide +kernel
theorem dX4_same_1 : decode cX4_same 1 = .ok (.invokestatic 39, 3) := by decide +kernel
theorem dX4_same_4 : decode cX4_same 4 = .ok (.ifCond .eq 10, 3) := by decide +kernel
theorem dX4_same_7 : decode cX4_same 7 = .ok (.iload_n 2, 1) := by decide +kernel
theorem dX4_same_8 : decode cX4_same 8 = .ok (.invokestatic 39, 3) := by decide +kernel
theorem dX4_same_11 : decode cX4_same 11 = .ok (.ifCond .ne 6, 3) := by decide +kernel
theorem dX4_same_14 : decode cX4_same 14 = .ok (.bipush (-101), 2) := by decide +kernel
theorem dX4_same_16 : decode cX4_same 16 = .ok (.ireturn, 1) := by decide +kernel
theorem dX4_same_17 : decode cX4_same 17 = .ok (.iconst 0, 1) := by decide +kernel
theorem dX4_same_18 : decode cX4_same 18 = .ok (.istore_n 3, 1) := by decide +kernel
theorem dX4_same_19 : decode cX4_same 19 = .ok (.iload_n 3, 1) := by decide +kernel
theorem dX4_same_20 : decode cX4_same 20 = .ok (.aload_n 0, 1) := by decide +kernel
theorem dX4_same_21 : decode cX4_same 21 = .ok (.getfield 19, 3) := by decide +kernel
theorem dX4_same_24 : decode cX4_same 24 = .ok (.getfield 174, 3) := by decide +kernel
theorem dX4_same_27 : decode cX4_same 27 = .ok (.if_icmp .ge 38, 3) := by decide +kernel
theorem dX4_same_30 : decode cX4_same 30 = .ok (.aload_n 0, 1) := by decide +kernel
theorem dX4_same_31 : decode cX4_same 31 = .ok (.getfield 32, 3) := by decide +kernel
theorem dX4_same_34 : decode cX4_same 34 = .ok (.iload_n 1, 1) := by decide +kernel
theorem dX4_same_35 : decode cX4_same 35 = .ok (.aaload, 1) := by decide +kernel
theorem dX4_same_36 : decode cX4_same 36 = .ok (.aload_n 0, 1) := by decide +kernel
theorem dX4_same_37 : decode cX4_same 37 = .ok (.getfield 32, 3) := by decide +kernel
theorem dX4_same_40 : decode cX4_same 40 = .ok (.iload_n 2, 1) := by decide +kernel
theorem dX4_same_41 : decode cX4_same 41 = .ok (.aaload, 1) := by decide +kernel
theorem dX4_same_42 : decode cX4_same 42 = .ok (.aload_n 0, 1) := by decide +kernel
theorem dX4_same_43 : decode cX4_same 43 = .ok (.getfield 19, 3) := by decide +kernel
theorem dX4_same_46 : decode cX4_same 46 = .ok (.getfield 175, 3) := by decide +kernel
theorem dX4_same_49 : decode cX4_same 49 = .ok (.iload_n 3, 1) := by decide +kernel
theorem dX4_same_50 : decode cX4_same 50 = .ok (.iaload, 1) := by decide +kernel
theorem dX4_same_51 : decode cX4_same 51 = .ok (.invokestatic 178, 3) := by decide +kernel
theorem dX4_same_54 : decode cX4_same 54 = .ok (.ifCond .ne 5, 3) := by decide +kernel
theorem dX4_same_57 : decode cX4_same 57 = .ok (.iconst 0, 1) := by decide +kernel
theorem dX4_same_58 : decode cX4_same 58 = .ok (.ireturn, 1) := by decide +kernel
theorem dX4_same_59 : decode cX4_same 59 = .ok (.iinc 3 1, 3) := by decide +kernel
theorem dX4_same_62 : decode cX4_same 62 = .ok (.goto (-43), 3) := by decide +kernel
theorem dX4_same_65 : decode cX4_same 65 = .ok (.iconst 1, 1) := by decide +kernel
theorem dX4_same_66 : decode cX4_same 66 = .ok (.ireturn, 1) := by decide +kernel
theorem dX4_deed_0 : decode cX4_deed 0 = .ok (.iload_n 1, 1) := by decide +kernel
theorem dX4_deed_1 : decode cX4_deed 1 = .ok (.ifCond .lt 14, 3) := by decide +kernel
theorem dX4_deed_4 : decode cX4_deed 4 = .ok (.iload_n 1, 1) := by decide +kernel
theorem dX4_deed_5 : decode cX4_deed 5 = .ok (.aload_n 0, 1) := by decide +kernel
theorem dX4_deed_6 : decode cX4_deed 6 = .ok (.getfield 10, 3) := by decide +kernel
theorem dX4_deed_9 : decode cX4_deed 9 = .ok (.getfield 111, 3) := by decide +kernel
theorem dX4_deed_12 : decode cX4_deed 12 = .ok (.if_icmp .lt 6, 3) := by decide +kernel
theorem dX4_deed_15 : decode cX4_deed 15 = .ok (.bipush (-101), 2) := by decide +kernel
theorem dX4_deed_17 : decode cX4_deed 17 = .ok (.ireturn, 1) := by decide +kernel
theorem dX4_deed_18 : decode cX4_deed 18 = .ok (.iload_n 2, 1) := by decide +kernel
theorem dX4_deed_19 : decode cX4_deed 19 = .ok (.tableswitch 97 0 5 #[37, 47, 57, 67, 77, 87], 37) := by decide +kernel
theorem dX4_deed_56 : decode cX4_deed 56 = .ok (.aload_n 0, 1) := by decide +kernel
theorem dX4_deed_57 : decode cX4_deed 57 = .ok (.getfield 10, 3) := by decide +kernel
theorem dX4_deed_60 : decode cX4_deed 60 = .ok (.getfield 182, 3) := by decide +kernel
theorem dX4_deed_63 : decode cX4_deed 63 = .ok (.iload_n 1, 1) := by decide +kernel
theorem dX4_deed_64 : decode cX4_deed 64 = .ok (.iaload, 1) := by decide +kernel
theorem dX4_deed_65 : decode cX4_deed 65 = .ok (.ireturn, 1) := by decide +kernel
theorem dX4_deed_66 : decode cX4_deed 66 = .ok (.aload_n 0, 1) := by decide +kernel
theorem dX4_deed_67 : decode cX4_deed 67 = .ok (.getfield 10, 3) := by decide +kernel
theorem dX4_deed_70 : decode cX4_deed 70 = .ok (.getfield 185, 3) := by decide +kernel
theorem dX4_deed_73 : decode cX4_deed 73 = .ok (.iload_n 1, 1) := by decide +kernel
theorem dX4_deed_74 : decode cX4_deed 74 = .ok (.iaload, 1) := by decide +kernel
theorem dX4_deed_75 : decode cX4_deed 75 = .ok (.ireturn, 1) := by decide +kernel
theorem dX4_deed_76 : decode cX4_deed 76 = .ok (.aload_n 0, 1) := by decide +kernel
theorem dX4_deed_77 : decode cX4_deed 77 = .ok (.getfield 10, 3) := by decide +kernel
theorem dX4_deed_80 : decode cX4_deed 80 = .ok (.getfield 188, 3) := by decide +kernel
theorem dX4_deed_83 : decode cX4_deed 83 = .ok (.iload_n 1, 1) := by decide +kernel
theorem dX4_deed_84 : decode cX4_deed 84 = .ok (.iaload, 1) := by decide +kernel
theorem dX4_deed_85 : decode cX4_deed 85 = .ok (.ireturn, 1) := by decide +kernel
theorem dX4_deed_86 : decode cX4_deed 86 = .ok (.aload_n 0, 1) := by decide +kernel
theorem dX4_deed_87 : decode cX4_deed 87 = .ok (.getfield 10, 3) := by decide +kernel
theorem dX4_deed_90 : decode cX4_deed 90 = .ok (.getfield 76, 3) := by decide +kernel
theorem dX4_deed_93 : decode cX4_deed 93 = .ok (.iload_n 1, 1) := by decide +kernel
theorem dX4_deed_94 : decode cX4_deed 94 = .ok (.iaload, 1) := by decide +kernel
theorem dX4_deed_95 : decode cX4_deed 95 = .ok (.ireturn, 1) := by decide +kernel
theorem dX4_deed_96 : decode cX4_deed 96 = .ok (.aload_n 0, 1) := by decide +kernel
theorem dX4_deed_97 : decode cX4_deed 97 = .ok (.getfield 10, 3) := by decide +kernel
theorem dX4_deed_100 : decode cX4_deed 100 = .ok (.getfield 118, 3) := by decide +kernel
theorem dX4_deed_103 : decode cX4_deed 103 = .ok (.iload_n 1, 1) := by decide +kernel
theorem dX4_deed_104 : decode cX4_deed 104 = .ok (.iaload, 1) := by decide +kernel
theorem dX4_deed_105 : decode cX4_deed 105 = .ok (.ireturn, 1) := by decide +kernel
theorem dX4_deed_106 : decode cX4_deed 106 = .ok (.aload_n 0, 1) := by decide +kernel
theorem dX4_deed_107 : decode cX4_deed 107 = .ok (.getfield 10, 3) := by decide +kernel
theorem dX4_deed_110 : decode cX4_deed 110 = .ok (.getfield 72, 3) := by decide +kernel
theorem dX4_deed_113 : decode cX4_deed 113 = .ok (.iload_n 1, 1) := by decide +kernel
theorem dX4_deed_114 : decode cX4_deed 114 = .ok (.iaload, 1) := by decide +kernel
theorem dX4_deed_115 : decode cX4_deed 115 = .ok (.ireturn, 1) := by decide +kernel
theorem dX4_deed_116 : decode cX4_deed 116 = .ok (.bipush (-102), 2) := by decide +kernel
theorem dX4_deed_118 : decode cX4_deed 118 = .ok (.ireturn, 1) := by decide +kernel
theorem dX4_message_0 : decode cX4_message 0 = .ok (.aload_n 0, 1) := by decide +kernel
theorem dX4_message_1 : decode cX4_message 1 = .ok (.getfield 26, 3) := by decide +kernel
theorem dX4_message_4 : decode cX4_message 4 = .ok (.iload_n 1, 1) := by decide +kernel
theorem dX4_message_5 : decode cX4_message 5 = .ok (.invokevirtual 83, 3) := by decide +kernel
theorem dX4_message_8 : decode cX4_message 8 = .ok (.ifCond .ne 6, 3) := by decide +kernel
theorem dX4_message_11 : decode cX4_message 11 = .ok (.bipush (-101), 2) := by decide +kernel
theorem dX4_message_13 : decode cX4_message 13 = .ok (.ireturn, 1) := by decide +kernel
theorem dX4_message_14 : decode cX4_message 14 = .ok (.iload_n 2, 1) := by decide +kernel
theorem dX4_message_15 : decode cX4_message 15 = .ok (.ifCond .ne 15, 3) := by decide +kernel
theorem dX4_message_18 : decode cX4_message 18 = .ok (.aload_n 0, 1) := by decide +kernel
theorem dX4_message_19 : decode cX4_message 19 = .ok (.getfield 26, 3) := by decide +kernel
theorem dX4_message_22 : decode cX4_message 22 = .ok (.getfield 86, 3) := by decide +kernel
theorem dX4_message_25 : decode cX4_message 25 = .ok (.iload_n 1, 1) := by decide +kernel
theorem dX4_message_26 : decode cX4_message 26 = .ok (.iaload, 1) := by decide +kernel
theorem dX4_message_27 : decode cX4_message 27 = .ok (.goto 22, 3) := by decide +kernel
theorem dX4_message_30 : decode cX4_message 30 = .ok (.iload_n 2, 1) := by decide +kernel
theorem dX4_message_31 : decode cX4_message 31 = .ok (.iconst 1, 1) := by decide +kernel
theorem dX4_message_32 : decode cX4_message 32 = .ok (.if_icmp .ne 15, 3) := by decide +kernel
theorem dX4_message_35 : decode cX4_message 35 = .ok (.aload_n 0, 1) := by decide +kernel
theorem dX4_message_36 : decode cX4_message 36 = .ok (.getfield 26, 3) := by decide +kernel
theorem dX4_message_39 : decode cX4_message 39 = .ok (.getfield 89, 3) := by decide +kernel
theorem dX4_message_42 : decode cX4_message 42 = .ok (.iload_n 1, 1) := by decide +kernel
theorem dX4_message_43 : decode cX4_message 43 = .ok (.iaload, 1) := by decide +kernel
theorem dX4_message_44 : decode cX4_message 44 = .ok (.goto 5, 3) := by decide +kernel
theorem dX4_message_47 : decode cX4_message 47 = .ok (.bipush (-102), 2) := by decide +kernel
theorem dX4_message_49 : decode cX4_message 49 = .ok (.ireturn, 1) := by decide +kernel
theorem dX4_count_0 : decode cX4_count 0 = .ok (.iload_n 1, 1) := by decide +kernel
theorem dX4_count_1 : decode cX4_count 1 = .ok (.tableswitch 51 0 2 #[27, 35, 43], 27) := by decide +kernel
theorem dX4_count_28 : decode cX4_count 28 = .ok (.aload_n 0, 1) := by decide +kernel
theorem dX4_count_29 : decode cX4_count 29 = .ok (.getfield 10, 3) := by decide +kernel
theorem dX4_count_32 : decode cX4_count 32 = .ok (.getfield 111, 3) := by decide +kernel
theorem dX4_count_35 : decode cX4_count 35 = .ok (.ireturn, 1) := by decide +kernel
theorem dX4_count_36 : decode cX4_count 36 = .ok (.aload_n 0, 1) := by decide +kernel
theorem dX4_count_37 : decode cX4_count 37 = .ok (.getfield 26, 3) := by decide +kernel
theorem dX4_count_40 : decode cX4_count 40 = .ok (.getfield 99, 3) := by decide +kernel
theorem dX4_count_43 : decode cX4_count 43 = .ok (.ireturn, 1) := by decide +kernel
theorem dX4_count_44 : decode cX4_count 44 = .ok (.aload_n 0, 1) := by decide +kernel
theorem dX4_count_45 : decode cX4_count 45 = .ok (.getfield 26, 3) := by decide +kernel
theorem dX4_count_48 : decode cX4_count 48 = .ok (.getfield 190, 3) := by decide +kernel
theorem dX4_count_51 : decode cX4_count 51 = .ok (.ireturn, 1) := by decide +kernel
theorem dX4_count_52 : decode cX4_count 52 = .ok (.bipush (-102), 2) := by decide +kernel
theorem dX4_count_54 : decode cX4_count 54 = .ok (.ireturn, 1) := by decide +kernel
theorem dX4_isReplica_0 : decode cX4_isReplica 0 = .ok (.iload_n 0, 1) := by decide +kernel
theorem dX4_isReplica_1 : decode cX4_isReplica 1 = .ok (.ifCond .lt 13, 3) := by decide +kernel
theorem dX4_isReplica_4 : decode cX4_isReplica 4 = .ok (.iload_n 0, 1) := by decide +kernel
theorem dX4_isReplica_5 : decode cX4_isReplica 5 = .ok (.bipush 6, 2) := by decide +kernel
theorem dX4_isReplica_7 : decode cX4_isReplica 7 = .ok (.if_icmp .ge 7, 3) := by decide +kernel
theorem dX4_isReplica_10 : decode cX4_isReplica 10 = .ok (.iconst 1, 1) := by decide +kernel
theorem dX4_isReplica_11 : decode cX4_isReplica 11 = .ok (.goto 4, 3) := by decide +kernel
theorem dX4_isReplica_14 : decode cX4_isReplica 14 = .ok (.iconst 0, 1) := by decide +kernel
theorem dX4_isReplica_15 : decode cX4_isReplica 15 = .ok (.ireturn, 1) := by decide +kernel
theorem dX4_isCursor_0 : decode cX4_isCursor 0 = .ok (.iload_n 0, 1) := by decide +kernel
theorem dX4_isCursor_1 : decode cX4_isCursor 1 = .ok (.ifCond .lt 12, 3) := by decide +kernel
theorem dX4_isCursor_4 : decode cX4_isCursor 4 = .ok (.iload_n 0, 1) := by decide +kernel
theorem dX4_isCursor_5 : decode cX4_isCursor 5 = .ok (.iconst 4, 1) := by decide +kernel
theorem dX4_isCursor_6 : decode cX4_isCursor 6 = .ok (.if_icmp .ge 7, 3) := by decide +kernel
theorem dX4_isCursor_9 : decode cX4_isCursor 9 = .ok (.iconst 1, 1) := by decide +kernel
theorem dX4_isCursor_10 : decode cX4_isCursor 10 = .ok (.goto 4, 3) := by decide +kernel
theorem dX4_isCursor_13 : decode cX4_isCursor 13 = .ok (.iconst 0, 1) := by decide +kernel
theorem dX4_isCursor_14 : decode cX4_isCursor 14 = .ok (.ireturn, 1) := by decide +kernel
theorem dX4_isByte_0 : decode cX4_isByte 0 = .ok (.iload_n 0, 1) := by decide +kernel
theorem dX4_isByte_1 : decode cX4_isByte 1 = .ok (.bipush 32, 2) := by decide +kernel
theorem dX4_isByte_3 : decode cX4_isByte 3 = .ok (.if_icmp .lt 13, 3) := by decide +kernel
theorem dX4_isByte_6 : decode cX4_isByte 6 = .ok (.iload_n 0, 1) := by decide +kernel
theorem dX4_isByte_7 : decode cX4_isByte 7 = .ok (.bipush 126, 2) := by decide +kernel
theorem dX4_isByte_9 : decode cX4_isByte 9 = .ok (.if_icmp .gt 7, 3) := by decide +kernel
theorem dX4_isByte_12 : decode cX4_isByte 12 = .ok (.iconst 1, 1) := by decide +kernel
theorem dX4_isByte_13 : decode cX4_isByte 13 = .ok (.goto 4, 3) := by decide +kernel
theorem dX4_isByte_16 : decode cX4_isByte 16 = .ok (.iconst 0, 1) := by decide +kernel
theorem dX4_isByte_17 : decode cX4_isByte 17 = .ok (.ireturn, 1) := by decide +kernel
theorem dX4_livingSign_0 : decode cX4_livingSign 0 = .ok (.iload_n 1, 1) := by decide +kernel
theorem dX4_livingSign_1 : decode cX4_livingSign 1 = .ok (.invokestatic 39, 3) := by decide +kernel
theorem dX4_livingSign_4 : decode cX4_livingSign 4 = .ok (.ifCond .eq 16, 3) := by decide +kernel
theorem dX4_livingSign_7 : decode cX4_livingSign 7 = .ok (.aload_n 0, 1) := by decide +kernel
theorem dX4_livingSign_8 : decode cX4_livingSign 8 = .ok (.getfield 32, 3) := by decide +kernel
theorem dX4_livingSign_11 : decode cX4_livingSign 11 = .ok (.iload_n 1, 1) := by decide +kernel
theorem dX4_livingSign_12 : decode cX4_livingSign 12 = .ok (.aaload, 1) := by decide +kernel
theorem dX4_livingSign_13 : decode cX4_livingSign 13 = .ok (.iload_n 2, 1) := by decide +kernel
theorem dX4_livingSign_14 : decode cX4_livingSign 14 = .ok (.invokevirtual 57, 3) := by decide +kernel
theorem dX4_livingSign_17 : decode cX4_livingSign 17 = .ok (.goto 4, 3) := by decide +kernel
theorem dX4_livingSign_20 : decode cX4_livingSign 20 = .ok (.iconst (-1), 1) := by decide +kernel
theorem dX4_livingSign_21 : decode cX4_livingSign 21 = .ok (.istore_n 3, 1) := by decide +kernel
theorem dX4_livingSign_22 : decode cX4_livingSign 22 = .ok (.iload_n 3, 1) := by decide +kernel
theorem dX4_livingSign_23 : decode cX4_livingSign 23 = .ok (.iconst (-1), 1) := by decide +kernel
theorem dX4_livingSign_24 : decode cX4_livingSign 24 = .ok (.if_icmp .ne 13, 3) := by decide +kernel
theorem dX4_livingSign_27 : decode cX4_livingSign 27 = .ok (.new 128, 3) := by decide +kernel
theorem dX4_livingSign_30 : decode cX4_livingSign 30 = .ok (.dup, 1) := by decide +kernel
theorem dX4_livingSign_31 : decode cX4_livingSign 31 = .ok (.ldc 193, 2) := by decide +kernel
theorem dX4_livingSign_33 : decode cX4_livingSign 33 = .ok (.invokespecial 132, 3) := by decide +kernel
theorem dX4_livingSign_36 : decode cX4_livingSign 36 = .ok (.athrow, 1) := by decide +kernel
theorem dX4_livingSign_37 : decode cX4_livingSign 37 = .ok (.iload_n 3, 1) := by decide +kernel
theorem dX4_livingSign_38 : decode cX4_livingSign 38 = .ok (.ireturn, 1) := by decide +kernel
theorem dX4_putSign_0 : decode cX4_putSign 0 = .ok (.aload_n 0, 1) := by decide +kernel
theorem dX4_putSign_1 : decode cX4_putSign 1 = .ok (.getfield 10, 3) := by decide +kernel
theorem dX4_putSign_4 : decode cX4_putSign 4 = .ok (.invokevirtual 61, 3) := by decide +kernel
theorem dX4_putSign_7 : decode cX4_putSign 7 = .ok (.ifCond .eq 6, 3) := by decide +kernel
theorem dX4_putSign_10 : decode cX4_putSign 10 = .ok (.bipush (-104), 2) := by decide +kernel
theorem dX4_putSign_12 : decode cX4_putSign 12 = .ok (.ireturn, 1) := by decide +kernel
theorem dX4_putSign_13 : decode cX4_putSign 13 = .ok (.aload_n 0, 1) := by decide +kernel
theorem dX4_putSign_14 : decode cX4_putSign 14 = .ok (.getfield 10, 3) := by decide +kernel
theorem dX4_putSign_17 : decode cX4_putSign 17 = .ok (.getfield 111, 3) := by decide +kernel
theorem dX4_putSign_20 : decode cX4_putSign 20 = .ok (.istore 4, 2) := by decide +kernel
theorem dX4_putSign_22 : decode cX4_putSign 22 = .ok (.aload_n 1, 1) := by decide +kernel
theorem dX4_putSign_23 : decode cX4_putSign 23 = .ok (.iload_n 2, 1) := by decide +kernel
theorem dX4_putSign_24 : decode cX4_putSign 24 = .ok (.invokevirtual 159, 3) := by decide +kernel
theorem dX4_putSign_27 : decode cX4_putSign 27 = .ok (.istore 5, 2) := by decide +kernel
theorem dX4_putSign_29 : decode cX4_putSign 29 = .ok (.aload_n 0, 1) := by decide +kernel
theorem dX4_putSign_30 : decode cX4_putSign 30 = .ok (.getfield 19, 3) := by decide +kernel
theorem dX4_putSign_33 : decode cX4_putSign 33 = .ok (.iload 4, 2) := by decide +kernel
theorem dX4_putSign_35 : decode cX4_putSign 35 = .ok (.iload 5, 2) := by decide +kernel
theorem dX4_putSign_37 : decode cX4_putSign 37 = .ok (.aload_n 1, 1) := by decide +kernel
theorem dX4_putSign_38 : decode cX4_putSign 38 = .ok (.iload 5, 2) := by decide +kernel
theorem dX4_putSign_40 : decode cX4_putSign 40 = .ok (.invokevirtual 195, 3) := by decide +kernel
theorem dX4_putSign_43 : decode cX4_putSign 43 = .ok (.aload_n 1, 1) := by decide +kernel
theorem dX4_putSign_44 : decode cX4_putSign 44 = .ok (.invokevirtual 198, 3) := by decide +kernel
theorem dX4_putSign_47 : decode cX4_putSign 47 = .ok (.ifCond .ne 6, 3) := by decide +kernel
theorem dX4_putSign_50 : decode cX4_putSign 50 = .ok (.bipush (-104), 2) := by decide +kernel
theorem dX4_putSign_52 : decode cX4_putSign 52 = .ok (.ireturn, 1) := by decide +kernel
theorem dX4_putSign_53 : decode cX4_putSign 53 = .ok (.aload_n 0, 1) := by decide +kernel
theorem dX4_putSign_54 : decode cX4_putSign 54 = .ok (.getfield 19, 3) := by decide +kernel
theorem dX4_putSign_57 : decode cX4_putSign 57 = .ok (.iload 4, 2) := by decide +kernel
theorem dX4_putSign_59 : decode cX4_putSign 59 = .ok (.iload 5, 2) := by decide +kernel
theorem dX4_putSign_61 : decode cX4_putSign 61 = .ok (.invokevirtual 202, 3) := by decide +kernel
theorem dX4_putSign_64 : decode cX4_putSign 64 = .ok (.aload_n 0, 1) := by decide +kernel
theorem dX4_putSign_65 : decode cX4_putSign 65 = .ok (.aload_n 1, 1) := by decide +kernel
theorem dX4_putSign_66 : decode cX4_putSign 66 = .ok (.iconst 0, 1) := by decide +kernel
theorem dX4_putSign_67 : decode cX4_putSign 67 = .ok (.iload_n 3, 1) := by decide +kernel
theorem dX4_putSign_68 : decode cX4_putSign 68 = .ok (.iload 4, 2) := by decide +kernel
theorem dX4_putSign_70 : decode cX4_putSign 70 = .ok (.iload 4, 2) := by decide +kernel
theorem dX4_putSign_72 : decode cX4_putSign 72 = .ok (.invokevirtual 65, 3) := by decide +kernel
theorem dX4_putSign_75 : decode cX4_putSign 75 = .ok (.ireturn, 1) := by decide +kernel
theorem dX4_perform_0 : decode cX4_perform 0 = .ok (.aload_n 0, 1) := by decide +kernel
theorem dX4_perform_1 : decode cX4_perform 1 = .ok (.getfield 10, 3) := by decide +kernel
theorem dX4_perform_4 : decode cX4_perform 4 = .ok (.aload_n 1, 1) := by decide +kernel
theorem dX4_perform_5 : decode cX4_perform 5 = .ok (.getfield 205, 3) := by decide +kernel
theorem dX4_perform_8 : decode cX4_perform 8 = .ok (.aload_n 1, 1) := by decide +kernel
theorem dX4_perform_9 : decode cX4_perform 9 = .ok (.invokevirtual 208, 3) := by decide +kernel
theorem dX4_perform_12 : decode cX4_perform 12 = .ok (.aload_n 1, 1) := by decide +kernel
theorem dX4_perform_13 : decode cX4_perform 13 = .ok (.getfield 168, 3) := by decide +kernel
theorem dX4_perform_16 : decode cX4_perform 16 = .ok (.iconst 1, 1) := by decide +kernel
theorem dX4_perform_17 : decode cX4_perform 17 = .ok (.iadd, 1) := by decide +kernel
theorem dX4_perform_18 : decode cX4_perform 18 = .ok (.iload_n 2, 1) := by decide +kernel
theorem dX4_perform_19 : decode cX4_perform 19 = .ok (.iload_n 3, 1) := by decide +kernel
theorem dX4_perform_20 : decode cX4_perform 20 = .ok (.iload 4, 2) := by decide +kernel
theorem dX4_perform_22 : decode cX4_perform 22 = .ok (.iload 5, 2) := by decide +kernel
theorem dX4_perform_24 : decode cX4_perform 24 = .ok (.invokevirtual 211, 3) := by decide +kernel
theorem dX4_perform_27 : decode cX4_perform 27 = .ok (.istore 6, 2) := by decide +kernel
theorem dX4_perform_29 : decode cX4_perform 29 = .ok (.aload_n 1, 1) := by decide +kernel
theorem dX4_perform_30 : decode cX4_perform 30 = .ok (.iload 6, 2) := by decide +kernel
theorem dX4_perform_32 : decode cX4_perform 32 = .ok (.invokevirtual 215, 3) := by decide +kernel
theorem dX4_perform_35 : decode cX4_perform 35 = .ok (.iconst 0, 1) := by decide +kernel
theorem dX4_perform_36 : decode cX4_perform 36 = .ok (.istore 7, 2) := by decide +kernel
theorem dX4_perform_38 : decode cX4_perform 38 = .ok (.iload 7, 2) := by decide +kernel
theorem dX4_perform_40 : decode cX4_perform 40 = .ok (.bipush 6, 2) := by decide +kernel
theorem dX4_perform_42 : decode cX4_perform 42 = .ok (.if_icmp .ge 29, 3) := by decide +kernel
theorem dX4_perform_45 : decode cX4_perform 45 = .ok (.iload 7, 2) := by decide +kernel
theorem dX4_perform_47 : decode cX4_perform 47 = .ok (.aload_n 1, 1) := by decide +kernel
theorem dX4_perform_48 : decode cX4_perform 48 = .ok (.getfield 205, 3) := by decide +kernel
theorem dX4_perform_51 : decode cX4_perform 51 = .ok (.if_icmp .eq 14, 3) := by decide +kernel
theorem dX4_perform_54 : decode cX4_perform 54 = .ok (.aload_n 0, 1) := by decide +kernel
theorem dX4_perform_55 : decode cX4_perform 55 = .ok (.getfield 26, 3) := by decide +kernel
theorem dX4_perform_58 : decode cX4_perform 58 = .ok (.iload 6, 2) := by decide +kernel
theorem dX4_perform_60 : decode cX4_perform 60 = .ok (.iload 7, 2) := by decide +kernel
theorem dX4_perform_62 : decode cX4_perform 62 = .ok (.invokevirtual 103, 3) := by decide +kernel
theorem dX4_perform_65 : decode cX4_perform 65 = .ok (.iinc 7 1, 3) := by decide +kernel
theorem dX4_perform_68 : decode cX4_perform 68 = .ok (.goto (-30), 3) := by decide +kernel
theorem dX4_perform_71 : decode cX4_perform 71 = .ok (.iload 6, 2) := by decide +kernel
theorem dX4_perform_73 : decode cX4_perform 73 = .ok (.ireturn, 1) := by decide +kernel
theorem dX4_isAlike_0 : decode cX4_isAlike 0 = .ok (.aload_n 0, 1) := by decide +kernel
theorem dX4_isAlike_1 : decode cX4_isAlike 1 = .ok (.iload_n 2, 1) := by decide +kernel
theorem dX4_isAlike_2 : decode cX4_isAlike 2 = .ok (.invokevirtual 218, 3) := by decide +kernel
theorem dX4_isAlike_5 : decode cX4_isAlike 5 = .ok (.istore_n 3, 1) := by decide +kernel
theorem dX4_isAlike_6 : decode cX4_isAlike 6 = .ok (.iload_n 3, 1) := by decide +kernel
theorem dX4_isAlike_7 : decode cX4_isAlike 7 = .ok (.aload_n 1, 1) := by decide +kernel
theorem dX4_isAlike_8 : decode cX4_isAlike 8 = .ok (.iload_n 2, 1) := by decide +kernel
theorem dX4_isAlike_9 : decode cX4_isAlike 9 = .ok (.invokevirtual 218, 3) := by decide +kernel
theorem dX4_isAlike_12 : decode cX4_isAlike 12 = .ok (.if_icmp .eq 5, 3) := by decide +kernel
theorem dX4_isAlike_15 : decode cX4_isAlike 15 = .ok (.iconst 0, 1) := by decide +kernel
theorem dX4_isAlike_16 : decode cX4_isAlike 16 = .ok (.ireturn, 1) := by decide +kernel
theorem dX4_isAlike_17 : decode cX4_isAlike 17 = .ok (.iload_n 3, 1) := by decide +kernel
theorem dX4_isAlike_18 : decode cX4_isAlike 18 = .ok (.ifCond .eq 16, 3) := by decide +kernel
theorem dX4_isAlike_21 : decode cX4_isAlike 21 = .ok (.aload_n 0, 1) := by decide +kernel
theorem dX4_isAlike_22 : decode cX4_isAlike 22 = .ok (.iload_n 2, 1) := by decide +kernel
theorem dX4_isAlike_23 : decode cX4_isAlike 23 = .ok (.invokevirtual 147, 3) := by decide +kernel
theorem dX4_isAlike_26 : decode cX4_isAlike 26 = .ok (.aload_n 1, 1) := by decide +kernel
theorem dX4_isAlike_27 : decode cX4_isAlike 27 = .ok (.iload_n 2, 1) := by decide +kernel
theorem dX4_isAlike_28 : decode cX4_isAlike 28 = .ok (.invokevirtual 147, 3) := by decide +kernel
theorem dX4_isAlike_31 : decode cX4_isAlike 31 = .ok (.if_icmp .ne 7, 3) := by decide +kernel
theorem dX4_isAlike_34 : decode cX4_isAlike 34 = .ok (.iconst 1, 1) := by decide +kernel
theorem dX4_isAlike_35 : decode cX4_isAlike 35 = .ok (.goto 4, 3) := by decide +kernel
theorem dX4_isAlike_38 : decode cX4_isAlike 38 = .ok (.iconst 0, 1) := by decide +kernel
theorem dX4_isAlike_39 : decode cX4_isAlike 39 = .ok (.ireturn, 1) := by decide +kernel
theorem dX0_init_0 : decode cX0_init 0 = .ok (.aload_n 0, 1) := by decide +kernel
theorem dX0_init_1 : decode cX0_init 1 = .ok (.invokespecial 3, 3) := by decide +kernel
theorem dX0_init_4 : decode cX0_init 4 = .ok (.aload_n 0, 1) := by decide +kernel
theorem dX0_init_5 : decode cX0_init 5 = .ok (.sipush 400, 3) := by decide +kernel
theorem dX0_init_8 : decode cX0_init 8 = .ok (.newarray .int, 2) := by decide +kernel
theorem dX0_init_10 : decode cX0_init 10 = .ok (.putfield 9, 3) := by decide +kernel
theorem dX0_init_13 : decode cX0_init 13 = .ok (.aload_n 0, 1) := by decide +kernel
theorem dX0_init_14 : decode cX0_init 14 = .ok (.sipush 400, 3) := by decide +kernel
theorem dX0_init_17 : decode cX0_init 17 = .ok (.newarray .int, 2) := by decide +kernel
theorem dX0_init_19 : decode cX0_init 19 = .ok (.putfield 15, 3) := by decide +kernel
theorem dX0_init_22 : decode cX0_init 22 = .ok (.aload_n 0, 1) := by decide +kernel
theorem dX0_init_23 : decode cX0_init 23 = .ok (.sipush 400, 3) := by decide +kernel
theorem dX0_init_26 : decode cX0_init 26 = .ok (.newarray .int, 2) := by decide +kernel
theorem dX0_init_28 : decode cX0_init 28 = .ok (.putfield 18, 3) := by decide +kernel
theorem dX0_init_31 : decode cX0_init 31 = .ok (.aload_n 0, 1) := by decide +kernel
theorem dX0_init_32 : decode cX0_init 32 = .ok (.sipush 400, 3) := by decide +kernel
theorem dX0_init_35 : decode cX0_init 35 = .ok (.newarray .int, 2) := by decide +kernel
theorem dX0_init_37 : decode cX0_init 37 = .ok (.putfield 21, 3) := by decide +kernel
theorem dX0_init_40 : decode cX0_init 40 = .ok (.aload_n 0, 1) := by decide +kernel
theorem dX0_init_41 : decode cX0_init 41 = .ok (.sipush 400, 3) := by decide +kernel
theorem dX0_init_44 : decode cX0_init 44 = .ok (.newarray .int, 2) := by decide +kernel
theorem dX0_init_46 : decode cX0_init 46 = .ok (.putfield 24, 3) := by decide +kernel
theorem dX0_init_49 : decode cX0_init 49 = .ok (.aload_n 0, 1) := by decide +kernel
theorem dX0_init_50 : decode cX0_init 50 = .ok (.sipush 400, 3) := by decide +kernel
theorem dX0_init_53 : decode cX0_init 53 = .ok (.newarray .int, 2) := by decide +kernel
theorem dX0_init_55 : decode cX0_init 55 = .ok (.putfield 27, 3) := by decide +kernel
theorem dX0_init_58 : decode cX0_init 58 = .ok (.aload_n 0, 1) := by decide +kernel
theorem dX0_init_59 : decode cX0_init 59 = .ok (.sipush 400, 3) := by decide +kernel
theorem dX0_init_62 : decode cX0_init 62 = .ok (.newarray .int, 2) := by decide +kernel
theorem dX0_init_64 : decode cX0_init 64 = .ok (.putfield 30, 3) := by decide +kernel
theorem dX0_init_67 : decode cX0_init 67 = .ok (.aload_n 0, 1) := by decide +kernel
theorem dX0_init_68 : decode cX0_init 68 = .ok (.sipush 400, 3) := by decide +kernel
theorem dX0_init_71 : decode cX0_init 71 = .ok (.newarray .boolean, 2) := by decide +kernel
theorem dX0_init_73 : decode cX0_init 73 = .ok (.putfield 33, 3) := by decide +kernel
theorem dX0_init_76 : decode cX0_init 76 = .ok (.aload_n 0, 1) := by decide +kernel
theorem dX0_init_77 : decode cX0_init 77 = .ok (.sipush 400, 3) := by decide +kernel
theorem dX0_init_80 : decode cX0_init 80 = .ok (.newarray .int, 2) := by decide +kernel
theorem dX0_init_82 : decode cX0_init 82 = .ok (.putfield 37, 3) := by decide +kernel
theorem dX0_init_85 : decode cX0_init 85 = .ok (.return_, 1) := by decide +kernel
theorem dX0_isFull_0 : decode cX0_isFull 0 = .ok (.aload_n 0, 1) := by decide +kernel
theorem dX0_isFull_1 : decode cX0_isFull 1 = .ok (.getfield 40, 3) := by decide +kernel
theorem dX0_isFull_4 : decode cX0_isFull 4 = .ok (.sipush 400, 3) := by decide +kernel
theorem dX0_isFull_7 : decode cX0_isFull 7 = .ok (.if_icmp .lt 7, 3) := by decide +kernel
theorem dX0_isFull_10 : decode cX0_isFull 10 = .ok (.iconst 1, 1) := by decide +kernel
theorem dX0_isFull_11 : decode cX0_isFull 11 = .ok (.goto 4, 3) := by decide +kernel
theorem dX0_isFull_14 : decode cX0_isFull 14 = .ok (.iconst 0, 1) := by decide +kernel
theorem dX0_isFull_15 : decode cX0_isFull 15 = .ok (.ireturn, 1) := by decide +kernel
theorem dX0_add_0 : decode cX0_add 0 = .ok (.aload_n 0, 1) := by decide +kernel
theorem dX0_add_1 : decode cX0_add 1 = .ok (.getfield 40, 3) := by decide +kernel
theorem dX0_add_4 : decode cX0_add 4 = .ok (.istore 8, 2) := by decide +kernel
theorem dX0_add_6 : decode cX0_add 6 = .ok (.aload_n 0, 1) := by decide +kernel
theorem dX0_add_7 : decode cX0_add 7 = .ok (.getfield 9, 3) := by decide +kernel
theorem dX0_add_10 : decode cX0_add 10 = .ok (.iload 8, 2) := by decide +kernel
theorem dX0_add_12 : decode cX0_add 12 = .ok (.iload_n 1, 1) := by decide +kernel
theorem dX0_add_13 : decode cX0_add 13 = .ok (.iastore, 1) := by decide +kernel
theorem dX0_add_14 : decode cX0_add 14 = .ok (.aload_n 0, 1) := by decide +kernel
theorem dX0_add_15 : decode cX0_add 15 = .ok (.getfield 15, 3) := by decide +kernel
theorem dX0_add_18 : decode cX0_add 18 = .ok (.iload 8, 2) := by decide +kernel
theorem dX0_add_20 : decode cX0_add 20 = .ok (.iload_n 2, 1) := by decide +kernel
theorem dX0_add_21 : decode cX0_add 21 = .ok (.iastore, 1) := by decide +kernel
theorem dX0_add_22 : decode cX0_add 22 = .ok (.aload_n 0, 1) := by decide +kernel
theorem dX0_add_23 : decode cX0_add 23 = .ok (.getfield 18, 3) := by decide +kernel
theorem dX0_add_26 : decode cX0_add 26 = .ok (.iload 8, 2) := by decide +kernel
theorem dX0_add_28 : decode cX0_add 28 = .ok (.iload_n 3, 1) := by decide +kernel
theorem dX0_add_29 : decode cX0_add 29 = .ok (.iastore, 1) := by decide +kernel
theorem dX0_add_30 : decode cX0_add 30 = .ok (.aload_n 0, 1) := by decide +kernel
theorem dX0_add_31 : decode cX0_add 31 = .ok (.getfield 21, 3) := by decide +kernel
theorem dX0_add_34 : decode cX0_add 34 = .ok (.iload 8, 2) := by decide +kernel
theorem dX0_add_36 : decode cX0_add 36 = .ok (.iload 4, 2) := by decide +kernel
theorem dX0_add_38 : decode cX0_add 38 = .ok (.iastore, 1) := by decide +kernel
theorem dX0_add_39 : decode cX0_add 39 = .ok (.aload_n 0, 1) := by decide +kernel
theorem dX0_add_40 : decode cX0_add 40 = .ok (.getfield 24, 3) := by decide +kernel
theorem dX0_add_43 : decode cX0_add 43 = .ok (.iload 8, 2) := by decide +kernel
theorem dX0_add_45 : decode cX0_add 45 = .ok (.iload 5, 2) := by decide +kernel
theorem dX0_add_47 : decode cX0_add 47 = .ok (.iastore, 1) := by decide +kernel
theorem dX0_add_48 : decode cX0_add 48 = .ok (.aload_n 0, 1) := by decide +kernel
theorem dX0_add_49 : decode cX0_add 49 = .ok (.getfield 27, 3) := by decide +kernel
theorem dX0_add_52 : decode cX0_add 52 = .ok (.iload 8, 2) := by decide +kernel
theorem dX0_add_54 : decode cX0_add 54 = .ok (.iload 6, 2) := by decide +kernel
theorem dX0_add_56 : decode cX0_add 56 = .ok (.iastore, 1) := by decide +kernel
theorem dX0_add_57 : decode cX0_add 57 = .ok (.aload_n 0, 1) := by decide +kernel
theorem dX0_add_58 : decode cX0_add 58 = .ok (.getfield 30, 3) := by decide +kernel
theorem dX0_add_61 : decode cX0_add 61 = .ok (.iload 8, 2) := by decide +kernel
theorem dX0_add_63 : decode cX0_add 63 = .ok (.iload 7, 2) := by decide +kernel
theorem dX0_add_65 : decode cX0_add 65 = .ok (.iastore, 1) := by decide +kernel
theorem dX0_add_66 : decode cX0_add 66 = .ok (.aload_n 0, 1) := by decide +kernel
theorem dX0_add_67 : decode cX0_add 67 = .ok (.getfield 33, 3) := by decide +kernel
theorem dX0_add_70 : decode cX0_add 70 = .ok (.iload 8, 2) := by decide +kernel
theorem dX0_add_72 : decode cX0_add 72 = .ok (.iload 4, 2) := by decide +kernel
theorem dX0_add_74 : decode cX0_add 74 = .ok (.ifCond .eq 9, 3) := by decide +kernel
theorem dX0_add_77 : decode cX0_add 77 = .ok (.iload 4, 2) := by decide +kernel
theorem dX0_add_79 : decode cX0_add 79 = .ok (.iconst 1, 1) := by decide +kernel
theorem dX0_add_80 : decode cX0_add 80 = .ok (.if_icmp .ne 7, 3) := by decide +kernel
theorem dX0_add_83 : decode cX0_add 83 = .ok (.iconst 1, 1) := by decide +kernel
theorem dX0_add_84 : decode cX0_add 84 = .ok (.goto 4, 3) := by decide +kernel
theorem dX0_add_87 : decode cX0_add 87 = .ok (.iconst 0, 1) := by decide +kernel
theorem dX0_add_88 : decode cX0_add 88 = .ok (.bastore, 1) := by decide +kernel
theorem dX0_add_89 : decode cX0_add 89 = .ok (.iload 4, 2) := by decide +kernel
theorem dX0_add_91 : decode cX0_add 91 = .ok (.iconst 3, 1) := by decide +kernel
theorem dX0_add_92 : decode cX0_add 92 = .ok (.if_icmp .ne 24, 3) := by decide +kernel
theorem dX0_add_95 : decode cX0_add 95 = .ok (.aload_n 0, 1) := by decide +kernel
theorem dX0_add_96 : decode cX0_add 96 = .ok (.getfield 37, 3) := by decide +kernel
theorem dX0_add_99 : decode cX0_add 99 = .ok (.aload_n 0, 1) := by decide +kernel
theorem dX0_add_100 : decode cX0_add 100 = .ok (.getfield 44, 3) := by decide +kernel
theorem dX0_add_103 : decode cX0_add 103 = .ok (.iload 8, 2) := by decide +kernel
theorem dX0_add_105 : decode cX0_add 105 = .ok (.iastore, 1) := by decide +kernel
theorem dX0_add_106 : decode cX0_add 106 = .ok (.aload_n 0, 1) := by decide +kernel
theorem dX0_add_107 : decode cX0_add 107 = .ok (.dup, 1) := by decide +kernel
theorem dX0_add_108 : decode cX0_add 108 = .ok (.getfield 44, 3) := by decide +kernel
theorem dX0_add_111 : decode cX0_add 111 = .ok (.iconst 1, 1) := by decide +kernel
theorem dX0_add_112 : decode cX0_add 112 = .ok (.iadd, 1) := by decide +kernel
theorem dX0_add_113 : decode cX0_add 113 = .ok (.putfield 44, 3) := by decide +kernel
theorem dX0_add_116 : decode cX0_add 116 = .ok (.aload_n 0, 1) := by decide +kernel
theorem dX0_add_117 : decode cX0_add 117 = .ok (.dup, 1) := by decide +kernel
theorem dX0_add_118 : decode cX0_add 118 = .ok (.getfield 40, 3) := by decide +kernel
theorem dX0_add_121 : decode cX0_add 121 = .ok (.iconst 1, 1) := by decide +kernel
theorem dX0_add_122 : decode cX0_add 122 = .ok (.iadd, 1) := by decide +kernel
theorem dX0_add_123 : decode cX0_add 123 = .ok (.putfield 40, 3) := by decide +kernel
theorem dX0_add_126 : decode cX0_add 126 = .ok (.iload 8, 2) := by decide +kernel
theorem dX0_add_128 : decode cX0_add 128 = .ok (.ireturn, 1) := by decide +kernel
theorem dX0_isLater_0 : decode cX0_isLater 0 = .ok (.aload_n 0, 1) := by decide +kernel
theorem dX0_isLater_1 : decode cX0_isLater 1 = .ok (.getfield 18, 3) := by decide +kernel
theorem dX0_isLater_4 : decode cX0_isLater 4 = .ok (.iload_n 1, 1) := by decide +kernel
theorem dX0_isLater_5 : decode cX0_isLater 5 = .ok (.iaload, 1) := by decide +kernel
theorem dX0_isLater_6 : decode cX0_isLater 6 = .ok (.aload_n 0, 1) := by decide +kernel
theorem dX0_isLater_7 : decode cX0_isLater 7 = .ok (.getfield 18, 3) := by decide +kernel
theorem dX0_isLater_10 : decode cX0_isLater 10 = .ok (.iload_n 2, 1) := by decide +kernel
theorem dX0_isLater_11 : decode cX0_isLater 11 = .ok (.iaload, 1) := by decide +kernel
theorem dX0_isLater_12 : decode cX0_isLater 12 = .ok (.if_icmp .gt 33, 3) := by decide +kernel
theorem dX0_isLater_15 : decode cX0_isLater 15 = .ok (.aload_n 0, 1) := by decide +kernel
theorem dX0_isLater_16 : decode cX0_isLater 16 = .ok (.getfield 18, 3) := by decide +kernel
theorem dX0_isLater_19 : decode cX0_isLater 19 = .ok (.iload_n 1, 1) := by decide +kernel
theorem dX0_isLater_20 : decode cX0_isLater 20 = .ok (.iaload, 1) := by decide +kernel
theorem dX0_isLater_21 : decode cX0_isLater 21 = .ok (.aload_n 0, 1) := by decide +kernel
theorem dX0_isLater_22 : decode cX0_isLater 22 = .ok (.getfield 18, 3) := by decide +kernel
theorem dX0_isLater_25 : decode cX0_isLater 25 = .ok (.iload_n 2, 1) := by decide +kernel
theorem dX0_isLater_26 : decode cX0_isLater 26 = .ok (.iaload, 1) := by decide +kernel
theorem dX0_isLater_27 : decode cX0_isLater 27 = .ok (.if_icmp .ne 22, 3) := by decide +kernel
theorem dX0_isLater_30 : decode cX0_isLater 30 = .ok (.aload_n 0, 1) := by decide +kernel
theorem dX0_isLater_31 : decode cX0_isLater 31 = .ok (.getfield 9, 3) := by decide +kernel
theorem dX0_isLater_34 : decode cX0_isLater 34 = .ok (.iload_n 1, 1) := by decide +kernel
theorem dX0_isLater_35 : decode cX0_isLater 35 = .ok (.iaload, 1) := by decide +kernel
theorem dX0_isLater_36 : decode cX0_isLater 36 = .ok (.aload_n 0, 1) := by decide +kernel
theorem dX0_isLater_37 : decode cX0_isLater 37 = .ok (.getfield 9, 3) := by decide +kernel
theorem dX0_isLater_40 : decode cX0_isLater 40 = .ok (.iload_n 2, 1) := by decide +kernel
theorem dX0_isLater_41 : decode cX0_isLater 41 = .ok (.iaload, 1) := by decide +kernel
theorem dX0_isLater_42 : decode cX0_isLater 42 = .ok (.if_icmp .le 7, 3) := by decide +kernel
theorem dX0_isLater_45 : decode cX0_isLater 45 = .ok (.iconst 1, 1) := by decide +kernel
theorem dX0_isLater_46 : decode cX0_isLater 46 = .ok (.goto 4, 3) := by decide +kernel
theorem dX0_isLater_49 : decode cX0_isLater 49 = .ok (.iconst 0, 1) := by decide +kernel
theorem dX0_isLater_50 : decode cX0_isLater 50 = .ok (.ireturn, 1) := by decide +kernel
theorem dX0_lastToUndo_0 : decode cX0_lastToUndo 0 = .ok (.aload_n 0, 1) := by decide +kernel
theorem dX0_lastToUndo_1 : decode cX0_lastToUndo 1 = .ok (.getfield 40, 3) := by decide +kernel
theorem dX0_lastToUndo_4 : decode cX0_lastToUndo 4 = .ok (.iconst 1, 1) := by decide +kernel
theorem dX0_lastToUndo_5 : decode cX0_lastToUndo 5 = .ok (.isub, 1) := by decide +kernel
theorem dX0_lastToUndo_6 : decode cX0_lastToUndo 6 = .ok (.istore_n 2, 1) := by decide +kernel
theorem dX0_lastToUndo_7 : decode cX0_lastToUndo 7 = .ok (.iload_n 2, 1) := by decide +kernel
theorem dX0_lastToUndo_8 : decode cX0_lastToUndo 8 = .ok (.ifCond .lt 30, 3) := by decide +kernel
theorem dX0_lastToUndo_11 : decode cX0_lastToUndo 11 = .ok (.aload_n 0, 1) := by decide +kernel
theorem dX0_lastToUndo_12 : decode cX0_lastToUndo 12 = .ok (.getfield 33, 3) := by decide +kernel
theorem dX0_lastToUndo_15 : decode cX0_lastToUndo 15 = .ok (.iload_n 2, 1) := by decide +kernel
theorem dX0_lastToUndo_16 : decode cX0_lastToUndo 16 = .ok (.baload, 1) := by decide +kernel
theorem dX0_lastToUndo_17 : decode cX0_lastToUndo 17 = .ok (.ifCond .eq 15, 3) := by decide +kernel
theorem dX0_lastToUndo_20 : decode cX0_lastToUndo 20 = .ok (.aload_n 0, 1) := by decide +kernel
theorem dX0_lastToUndo_21 : decode cX0_lastToUndo 21 = .ok (.getfield 9, 3) := by decide +kernel
theorem dX0_lastToUndo_24 : decode cX0_lastToUndo 24 = .ok (.iload_n 2, 1) := by decide +kernel
theorem dX0_lastToUndo_25 : decode cX0_lastToUndo 25 = .ok (.iaload, 1) := by decide +kernel
theorem dX0_lastToUndo_26 : decode cX0_lastToUndo 26 = .ok (.iload_n 1, 1) := by decide +kernel
theorem dX0_lastToUndo_27 : decode cX0_lastToUndo 27 = .ok (.if_icmp .ne 5, 3) := by decide +kernel
theorem dX0_lastToUndo_30 : decode cX0_lastToUndo 30 = .ok (.iload_n 2, 1) := by decide +kernel
theorem dX0_lastToUndo_31 : decode cX0_lastToUndo 31 = .ok (.ireturn, 1) := by decide +kernel
theorem dX0_lastToUndo_32 : decode cX0_lastToUndo 32 = .ok (.iinc 2 (-1), 3) := by decide +kernel
theorem dX0_lastToUndo_35 : decode cX0_lastToUndo 35 = .ok (.goto (-28), 3) := by decide +kernel
theorem dX0_lastToUndo_38 : decode cX0_lastToUndo 38 = .ok (.iconst (-1), 1) := by decide +kernel
theorem dX0_lastToUndo_39 : decode cX0_lastToUndo 39 = .ok (.ireturn, 1) := by decide +kernel
theorem dX1_init_0 : decode cX1_init 0 = .ok (.aload_n 0, 1) := by decide +kernel
theorem dX1_init_1 : decode cX1_init 1 = .ok (.invokespecial 3, 3) := by decide +kernel
theorem dX1_init_4 : decode cX1_init 4 = .ok (.aload_n 0, 1) := by decide +kernel
theorem dX1_init_5 : decode cX1_init 5 = .ok (.sipush 4800, 3) := by decide +kernel
theorem dX1_init_8 : decode cX1_init 8 = .ok (.newarray .int, 2) := by decide +kernel
theorem dX1_init_10 : decode cX1_init 10 = .ok (.putfield 9, 3) := by decide +kernel
theorem dX1_init_13 : decode cX1_init 13 = .ok (.aload_n 0, 1) := by decide +kernel
theorem dX1_init_14 : decode cX1_init 14 = .ok (.sipush 400, 3) := by decide +kernel
theorem dX1_init_17 : decode cX1_init 17 = .ok (.newarray .int, 2) := by decide +kernel
theorem dX1_init_19 : decode cX1_init 19 = .ok (.putfield 15, 3) := by decide +kernel
theorem dX1_init_22 : decode cX1_init 22 = .ok (.aload_n 0, 1) := by decide +kernel
theorem dX1_init_23 : decode cX1_init 23 = .ok (.sipush 400, 3) := by decide +kernel
theorem dX1_init_26 : decode cX1_init 26 = .ok (.newarray .int, 2) := by decide +kernel
theorem dX1_init_28 : decode cX1_init 28 = .ok (.putfield 18, 3) := by decide +kernel
theorem dX1_init_31 : decode cX1_init 31 = .ok (.aload_n 0, 1) := by decide +kernel
theorem dX1_init_32 : decode cX1_init 32 = .ok (.sipush 400, 3) := by decide +kernel
theorem dX1_init_35 : decode cX1_init 35 = .ok (.newarray .int, 2) := by decide +kernel
theorem dX1_init_37 : decode cX1_init 37 = .ok (.putfield 21, 3) := by decide +kernel
theorem dX1_init_40 : decode cX1_init 40 = .ok (.return_, 1) := by decide +kernel
theorem dX1_digitOf_0 : decode cX1_digitOf 0 = .ok (.iload_n 0, 1) := by decide +kernel
theorem dX1_digitOf_1 : decode cX1_digitOf 1 = .ok (.bipush 12, 2) := by decide +kernel
theorem dX1_digitOf_3 : decode cX1_digitOf 3 = .ok (.iushr, 1) := by decide +kernel
theorem dX1_digitOf_4 : decode cX1_digitOf 4 = .ok (.ireturn, 1) := by decide +kernel
theorem dX1_siteOf_0 : decode cX1_siteOf 0 = .ok (.iload_n 0, 1) := by decide +kernel
theorem dX1_siteOf_1 : decode cX1_siteOf 1 = .ok (.bipush 9, 2) := by decide +kernel
theorem dX1_siteOf_3 : decode cX1_siteOf 3 = .ok (.iushr, 1) := by decide +kernel
theorem dX1_siteOf_4 : decode cX1_siteOf 4 = .ok (.bipush 7, 2) := by decide +kernel
theorem dX1_siteOf_6 : decode cX1_siteOf 6 = .ok (.iand, 1) := by decide +kernel
theorem dX1_siteOf_7 : decode cX1_siteOf 7 = .ok (.ireturn, 1) := by decide +kernel
theorem dX1_countOf_0 : decode cX1_countOf 0 = .ok (.iload_n 0, 1) := by decide +kernel
theorem dX1_countOf_1 : decode cX1_countOf 1 = .ok (.sipush 511, 3) := by decide +kernel
theorem dX1_countOf_4 : decode cX1_countOf 4 = .ok (.iand, 1) := by decide +kernel
theorem dX1_countOf_5 : decode cX1_countOf 5 = .ok (.ireturn, 1) := by decide +kernel
theorem dX1_makeLevel_0 : decode cX1_makeLevel 0 = .ok (.iload_n 0, 1) := by decide +kernel
theorem dX1_makeLevel_1 : decode cX1_makeLevel 1 = .ok (.bipush 12, 2) := by decide +kernel
theorem dX1_makeLevel_3 : decode cX1_makeLevel 3 = .ok (.ishl, 1) := by decide +kernel
theorem dX1_makeLevel_4 : decode cX1_makeLevel 4 = .ok (.iload_n 1, 1) := by decide +kernel
theorem dX1_makeLevel_5 : decode cX1_makeLevel 5 = .ok (.bipush 9, 2) := by decide +kernel
theorem dX1_makeLevel_7 : decode cX1_makeLevel 7 = .ok (.ishl, 1) := by decide +kernel
theorem dX1_makeLevel_8 : decode cX1_makeLevel 8 = .ok (.ior, 1) := by decide +kernel
theorem dX1_makeLevel_9 : decode cX1_makeLevel 9 = .ok (.iload_n 2, 1) := by decide +kernel
theorem dX1_makeLevel_10 : decode cX1_makeLevel 10 = .ok (.ior, 1) := by decide +kernel
theorem dX1_makeLevel_11 : decode cX1_makeLevel 11 = .ok (.ireturn, 1) := by decide +kernel
theorem dX1_baseOf_0 : decode cX1_baseOf 0 = .ok (.iconst 1, 1) := by decide +kernel
theorem dX1_baseOf_1 : decode cX1_baseOf 1 = .ok (.iload_n 0, 1) := by decide +kernel
theorem dX1_baseOf_2 : decode cX1_baseOf 2 = .ok (.iconst 3, 1) := by decide +kernel
theorem dX1_baseOf_3 : decode cX1_baseOf 3 = .ok (.iadd, 1) := by decide +kernel
theorem dX1_baseOf_4 : decode cX1_baseOf 4 = .ok (.bipush 12, 2) := by decide +kernel
theorem dX1_baseOf_6 : decode cX1_baseOf 6 = .ok (.invokestatic 24, 3) := by decide +kernel
theorem dX1_baseOf_9 : decode cX1_baseOf 9 = .ok (.ishl, 1) := by decide +kernel
theorem dX1_baseOf_10 : decode cX1_baseOf 10 = .ok (.ireturn, 1) := by decide +kernel
theorem dX1_levelOf_0 : decode cX1_levelOf 0 = .ok (.iload_n 1, 1) := by decide +kernel
theorem dX1_levelOf_1 : decode cX1_levelOf 1 = .ok (.iconst (-1), 1) := by decide +kernel
theorem dX1_levelOf_2 : decode cX1_levelOf 2 = .ok (.if_icmp .eq 13, 3) := by decide +kernel
theorem dX1_levelOf_5 : decode cX1_levelOf 5 = .ok (.iload_n 2, 1) := by decide +kernel
theorem dX1_levelOf_6 : decode cX1_levelOf 6 = .ok (.aload_n 0, 1) := by decide +kernel
theorem dX1_levelOf_7 : decode cX1_levelOf 7 = .ok (.getfield 15, 3) := by decide +kernel
theorem dX1_levelOf_10 : decode cX1_levelOf 10 = .ok (.iload_n 1, 1) := by decide +kernel
theorem dX1_levelOf_11 : decode cX1_levelOf 11 = .ok (.iaload, 1) := by decide +kernel
theorem dX1_levelOf_12 : decode cX1_levelOf 12 = .ok (.if_icmp .le 7, 3) := by decide +kernel
theorem dX1_levelOf_15 : decode cX1_levelOf 15 = .ok (.iconst 0, 1) := by decide +kernel
theorem dX1_levelOf_16 : decode cX1_levelOf 16 = .ok (.goto 16, 3) := by decide +kernel
theorem dX1_levelOf_19 : decode cX1_levelOf 19 = .ok (.aload_n 0, 1) := by decide +kernel
theorem dX1_levelOf_20 : decode cX1_levelOf 20 = .ok (.getfield 9, 3) := by decide +kernel
theorem dX1_levelOf_23 : decode cX1_levelOf 23 = .ok (.iload_n 1, 1) := by decide +kernel
theorem dX1_levelOf_24 : decode cX1_levelOf 24 = .ok (.bipush 12, 2) := by decide +kernel
theorem dX1_levelOf_26 : decode cX1_levelOf 26 = .ok (.imul, 1) := by decide +kernel
theorem dX1_levelOf_27 : decode cX1_levelOf 27 = .ok (.iload_n 2, 1) := by decide +kernel
theorem dX1_levelOf_28 : decode cX1_levelOf 28 = .ok (.iadd, 1) := by decide +kernel
theorem dX1_levelOf_29 : decode cX1_levelOf 29 = .ok (.iconst 1, 1) := by decide +kernel
theorem dX1_levelOf_30 : decode cX1_levelOf 30 = .ok (.isub, 1) := by decide +kernel
theorem dX1_levelOf_31 : decode cX1_levelOf 31 = .ok (.iaload, 1) := by decide +kernel
theorem dX1_levelOf_32 : decode cX1_levelOf 32 = .ok (.ireturn, 1) := by decide +kernel
theorem dX1_findNew_0 : decode cX1_findNew 0 = .ok (.iload_n 3, 1) := by decide +kernel
theorem dX1_findNew_1 : decode cX1_findNew 1 = .ok (.istore 5, 2) := by decide +kernel
theorem dX1_findNew_3 : decode cX1_findNew 3 = .ok (.iconst 1, 1) := by decide +kernel
theorem dX1_findNew_4 : decode cX1_findNew 4 = .ok (.istore 6, 2) := by decide +kernel
theorem dX1_findNew_6 : decode cX1_findNew 6 = .ok (.iload 6, 2) := by decide +kernel
theorem dX1_findNew_8 : decode cX1_findNew 8 = .ok (.bipush 12, 2) := by decide +kernel
theorem dX1_findNew_10 : decode cX1_findNew 10 = .ok (.if_icmp .gt 164, 3) := by decide +kernel
theorem dX1_findNew_13 : decode cX1_findNew 13 = .ok (.aload_n 0, 1) := by decide +kernel
theorem dX1_findNew_14 : decode cX1_findNew 14 = .ok (.iload_n 2, 1) := by decide +kernel
theorem dX1_findNew_15 : decode cX1_findNew 15 = .ok (.iload 6, 2) := by decide +kernel
theorem dX1_findNew_17 : decode cX1_findNew 17 = .ok (.invokevirtual 30, 3) := by decide +kernel
theorem dX1_findNew_20 : decode cX1_findNew 20 = .ok (.invokestatic 33, 3) := by decide +kernel
theorem dX1_findNew_23 : decode cX1_findNew 23 = .ok (.istore 7, 2) := by decide +kernel
theorem dX1_findNew_25 : decode cX1_findNew 25 = .ok (.iload 5, 2) := by decide +kernel
theorem dX1_findNew_27 : decode cX1_findNew 27 = .ok (.iconst (-1), 1) := by decide +kernel
theorem dX1_findNew_28 : decode cX1_findNew 28 = .ok (.if_icmp .ne 11, 3) := by decide +kernel
theorem dX1_findNew_31 : decode cX1_findNew 31 = .ok (.iload 6, 2) := by decide +kernel
theorem dX1_findNew_33 : decode cX1_findNew 33 = .ok (.invokestatic 37, 3) := by decide +kernel
theorem dX1_findNew_36 : decode cX1_findNew 36 = .ok (.goto 14, 3) := by decide +kernel
theorem dX1_findNew_39 : decode cX1_findNew 39 = .ok (.aload_n 0, 1) := by decide +kernel
theorem dX1_findNew_40 : decode cX1_findNew 40 = .ok (.iload 5, 2) := by decide +kernel
theorem dX1_findNew_42 : decode cX1_findNew 42 = .ok (.iload 6, 2) := by decide +kernel
theorem dX1_findNew_44 : decode cX1_findNew 44 = .ok (.invokevirtual 30, 3) := by decide +kernel
theorem dX1_findNew_47 : decode cX1_findNew 47 = .ok (.invokestatic 33, 3) := by decide +kernel
theorem dX1_findNew_50 : decode cX1_findNew 50 = .ok (.istore 8, 2) := by decide +kernel
theorem dX1_findNew_52 : decode cX1_findNew 52 = .ok (.iload_n 1, 1) := by decide +kernel
theorem dX1_findNew_53 : decode cX1_findNew 53 = .ok (.bipush 12, 2) := by decide +kernel
theorem dX1_findNew_55 : decode cX1_findNew 55 = .ok (.imul, 1) := by decide +kernel
theorem dX1_findNew_56 : decode cX1_findNew 56 = .ok (.iload 6, 2) := by decide +kernel
theorem dX1_findNew_58 : decode cX1_findNew 58 = .ok (.iadd, 1) := by decide +kernel
theorem dX1_findNew_59 : decode cX1_findNew 59 = .ok (.iconst 1, 1) := by decide +kernel
theorem dX1_findNew_60 : decode cX1_findNew 60 = .ok (.isub, 1) := by decide +kernel
theorem dX1_findNew_61 : decode cX1_findNew 61 = .ok (.istore 9, 2) := by decide +kernel
theorem dX1_findNew_63 : decode cX1_findNew 63 = .ok (.iload 8, 2) := by decide +kernel
theorem dX1_findNew_65 : decode cX1_findNew 65 = .ok (.iload 7, 2) := by decide +kernel
theorem dX1_findNew_67 : decode cX1_findNew 67 = .ok (.isub, 1) := by decide +kernel
theorem dX1_findNew_68 : decode cX1_findNew 68 = .ok (.iconst 1, 1) := by decide +kernel
theorem dX1_findNew_69 : decode cX1_findNew 69 = .ok (.if_icmp .le 51, 3) := by decide +kernel
theorem dX1_findNew_72 : decode cX1_findNew 72 = .ok (.iload 6, 2) := by decide +kernel
theorem dX1_findNew_74 : decode cX1_findNew 74 = .ok (.iload 7, 2) := by decide +kernel
theorem dX1_findNew_76 : decode cX1_findNew 76 = .ok (.iload 8, 2) := by decide +kernel
theorem dX1_findNew_78 : decode cX1_findNew 78 = .ok (.aload 4, 2) := by decide +kernel
theorem dX1_findNew_80 : decode cX1_findNew 80 = .ok (.invokevirtual 40, 3) := by decide +kernel
theorem dX1_findNew_83 : decode cX1_findNew 83 = .ok (.invokestatic 46, 3) := by decide +kernel
theorem dX1_findNew_86 : decode cX1_findNew 86 = .ok (.istore 10, 2) := by decide +kernel
theorem dX1_findNew_88 : decode cX1_findNew 88 = .ok (.aload_n 0, 1) := by decide +kernel
theorem dX1_findNew_89 : decode cX1_findNew 89 = .ok (.getfield 9, 3) := by decide +kernel
theorem dX1_findNew_92 : decode cX1_findNew 92 = .ok (.iload 9, 2) := by decide +kernel
theorem dX1_findNew_94 : decode cX1_findNew 94 = .ok (.iload 10, 2) := by decide +kernel
theorem dX1_findNew_96 : decode cX1_findNew 96 = .ok (.aload 4, 2) := by decide +kernel
theorem dX1_findNew_98 : decode cX1_findNew 98 = .ok (.getfield 50, 3) := by decide +kernel
theorem dX1_findNew_101 : decode cX1_findNew 101 = .ok (.aload 4, 2) := by decide +kernel
theorem dX1_findNew_103 : decode cX1_findNew 103 = .ok (.invokevirtual 54, 3) := by decide +kernel
theorem dX1_findNew_106 : decode cX1_findNew 106 = .ok (.invokestatic 57, 3) := by decide +kernel
theorem dX1_findNew_109 : decode cX1_findNew 109 = .ok (.iastore, 1) := by decide +kernel
theorem dX1_findNew_110 : decode cX1_findNew 110 = .ok (.aload_n 0, 1) := by decide +kernel
theorem dX1_findNew_111 : decode cX1_findNew 111 = .ok (.getfield 15, 3) := by decide +kernel
theorem dX1_findNew_114 : decode cX1_findNew 114 = .ok (.iload_n 1, 1) := by decide +kernel
theorem dX1_findNew_115 : decode cX1_findNew 115 = .ok (.iload 6, 2) := by decide +kernel
theorem dX1_findNew_117 : decode cX1_findNew 117 = .ok (.iastore, 1) := by decide +kernel
theorem dX1_findNew_118 : decode cX1_findNew 118 = .ok (.iconst 1, 1) := by decide +kernel
theorem dX1_findNew_119 : decode cX1_findNew 119 = .ok (.ireturn, 1) := by decide +kernel
theorem dX1_findNew_120 : decode cX1_findNew 120 = .ok (.aload_n 0, 1) := by decide +kernel
theorem dX1_findNew_121 : decode cX1_findNew 121 = .ok (.getfield 9, 3) := by decide +kernel
theorem dX1_findNew_124 : decode cX1_findNew 124 = .ok (.iload 9, 2) := by decide +kernel
theorem dX1_findNew_126 : decode cX1_findNew 126 = .ok (.aload_n 0, 1) := by decide +kernel
theorem dX1_findNew_127 : decode cX1_findNew 127 = .ok (.iload_n 2, 1) := by decide +kernel
theorem dX1_findNew_128 : decode cX1_findNew 128 = .ok (.iload 6, 2) := by decide +kernel
theorem dX1_findNew_130 : decode cX1_findNew 130 = .ok (.invokevirtual 30, 3) := by decide +kernel
theorem dX1_findNew_133 : decode cX1_findNew 133 = .ok (.aload_n 0, 1) := by decide +kernel
theorem dX1_findNew_134 : decode cX1_findNew 134 = .ok (.iload 5, 2) := by decide +kernel
theorem dX1_findNew_136 : decode cX1_findNew 136 = .ok (.iload 6, 2) := by decide +kernel
theorem dX1_findNew_138 : decode cX1_findNew 138 = .ok (.invokevirtual 30, 3) := by decide +kernel
theorem dX1_findNew_141 : decode cX1_findNew 141 = .ok (.aload 4, 2) := by decide +kernel
theorem dX1_findNew_143 : decode cX1_findNew 143 = .ok (.invokestatic 61, 3) := by decide +kernel
theorem dX1_findNew_146 : decode cX1_findNew 146 = .ok (.iastore, 1) := by decide +kernel
theorem dX1_findNew_147 : decode cX1_findNew 147 = .ok (.aload_n 0, 1) := by decide +kernel
theorem dX1_findNew_148 : decode cX1_findNew 148 = .ok (.iload 5, 2) := by decide +kernel
theorem dX1_findNew_150 : decode cX1_findNew 150 = .ok (.iload 6, 2) := by decide +kernel
theorem dX1_findNew_152 : decode cX1_findNew 152 = .ok (.invokevirtual 30, 3) := by decide +kernel
theorem dX1_findNew_155 : decode cX1_findNew 155 = .ok (.aload_n 0, 1) := by decide +kernel
theorem dX1_findNew_156 : decode cX1_findNew 156 = .ok (.getfield 9, 3) := by decide +kernel
theorem dX1_findNew_159 : decode cX1_findNew 159 = .ok (.iload 9, 2) := by decide +kernel
theorem dX1_findNew_161 : decode cX1_findNew 161 = .ok (.iaload, 1) := by decide +kernel
theorem dX1_findNew_162 : decode cX1_findNew 162 = .ok (.if_icmp .eq 6, 3) := by decide +kernel
theorem dX1_findNew_165 : decode cX1_findNew 165 = .ok (.iconst (-1), 1) := by decide +kernel
theorem dX1_findNew_166 : decode cX1_findNew 166 = .ok (.istore 5, 2) := by decide +kernel
theorem dX1_findNew_168 : decode cX1_findNew 168 = .ok (.iinc 6 1, 3) := by decide +kernel
theorem dX1_findNew_171 : decode cX1_findNew 171 = .ok (.goto (-165), 3) := by decide +kernel
theorem dX1_findNew_174 : decode cX1_findNew 174 = .ok (.iconst 0, 1) := by decide +kernel
theorem dX1_findNew_175 : decode cX1_findNew 175 = .ok (.ireturn, 1) := by decide +kernel
theorem dX1_lastDigit_0 : decode cX1_lastDigit 0 = .ok (.iconst 1, 1) := by decide +kernel
theorem dX1_lastDigit_1 : decode cX1_lastDigit 1 = .ok (.iload_n 3, 1) := by decide +kernel
theorem dX1_lastDigit_2 : decode cX1_lastDigit 2 = .ok (.bipush 10, 2) := by decide +kernel
theorem dX1_lastDigit_4 : decode cX1_lastDigit 4 = .ok (.iload_n 2, 1) := by decide +kernel
theorem dX1_lastDigit_5 : decode cX1_lastDigit 5 = .ok (.iload_n 1, 1) := by decide +kernel
theorem dX1_lastDigit_6 : decode cX1_lastDigit 6 = .ok (.isub, 1) := by decide +kernel
theorem dX1_lastDigit_7 : decode cX1_lastDigit 7 = .ok (.iconst 1, 1) := by decide +kernel
theorem dX1_lastDigit_8 : decode cX1_lastDigit 8 = .ok (.isub, 1) := by decide +kernel
theorem dX1_lastDigit_9 : decode cX1_lastDigit 9 = .ok (.invokestatic 24, 3) := by decide +kernel
theorem dX1_lastDigit_12 : decode cX1_lastDigit 12 = .ok (.irem, 1) := by decide +kernel
theorem dX1_lastDigit_13 : decode cX1_lastDigit 13 = .ok (.iadd, 1) := by decide +kernel
theorem dX1_lastDigit_14 : decode cX1_lastDigit 14 = .ok (.istore 4, 2) := by decide +kernel
theorem dX1_lastDigit_16 : decode cX1_lastDigit 16 = .ok (.iload_n 0, 1) := by decide +kernel
theorem dX1_lastDigit_17 : decode cX1_lastDigit 17 = .ok (.iconst 2, 1) := by decide +kernel
theorem dX1_lastDigit_18 : decode cX1_lastDigit 18 = .ok (.irem, 1) := by decide +kernel
theorem dX1_lastDigit_19 : decode cX1_lastDigit 19 = .ok (.iconst 1, 1) := by decide +kernel
theorem dX1_lastDigit_20 : decode cX1_lastDigit 20 = .ok (.if_icmp .ne 10, 3) := by decide +kernel
theorem dX1_lastDigit_23 : decode cX1_lastDigit 23 = .ok (.iload_n 1, 1) := by decide +kernel
theorem dX1_lastDigit_24 : decode cX1_lastDigit 24 = .ok (.iload 4, 2) := by decide +kernel
theorem dX1_lastDigit_26 : decode cX1_lastDigit 26 = .ok (.iadd, 1) := by decide +kernel
theorem dX1_lastDigit_27 : decode cX1_lastDigit 27 = .ok (.goto 7, 3) := by decide +kernel
theorem dX1_lastDigit_30 : decode cX1_lastDigit 30 = .ok (.iload_n 2, 1) := by decide +kernel
theorem dX1_lastDigit_31 : decode cX1_lastDigit 31 = .ok (.iload 4, 2) := by decide +kernel
theorem dX1_lastDigit_33 : decode cX1_lastDigit 33 = .ok (.isub, 1) := by decide +kernel
theorem dX1_lastDigit_34 : decode cX1_lastDigit 34 = .ok (.ireturn, 1) := by decide +kernel
theorem dX1_innerLevel_0 : decode cX1_innerLevel 0 = .ok (.iload_n 0, 1) := by decide +kernel
theorem dX1_innerLevel_1 : decode cX1_innerLevel 1 = .ok (.ifCond .eq 5, 3) := by decide +kernel
theorem dX1_innerLevel_4 : decode cX1_innerLevel 4 = .ok (.iload_n 0, 1) := by decide +kernel
theorem dX1_innerLevel_5 : decode cX1_innerLevel 5 = .ok (.ireturn, 1) := by decide +kernel
theorem dX1_innerLevel_6 : decode cX1_innerLevel 6 = .ok (.iload_n 1, 1) := by decide +kernel
theorem dX1_innerLevel_7 : decode cX1_innerLevel 7 = .ok (.invokestatic 33, 3) := by decide +kernel
theorem dX1_innerLevel_10 : decode cX1_innerLevel 10 = .ok (.ifCond .ne 7, 3) := by decide +kernel
theorem dX1_innerLevel_13 : decode cX1_innerLevel 13 = .ok (.iload_n 1, 1) := by decide +kernel
theorem dX1_innerLevel_14 : decode cX1_innerLevel 14 = .ok (.goto 15, 3) := by decide +kernel
theorem dX1_innerLevel_17 : decode cX1_innerLevel 17 = .ok (.iconst 0, 1) := by decide +kernel
theorem dX1_innerLevel_18 : decode cX1_innerLevel 18 = .ok (.aload_n 2, 1) := by decide +kernel
theorem dX1_innerLevel_19 : decode cX1_innerLevel 19 = .ok (.getfield 50, 3) := by decide +kernel
theorem dX1_innerLevel_22 : decode cX1_innerLevel 22 = .ok (.aload_n 2, 1) := by decide +kernel
theorem dX1_innerLevel_23 : decode cX1_innerLevel 23 = .ok (.invokevirtual 54, 3) := by decide +kernel
theorem dX1_innerLevel_26 : decode cX1_innerLevel 26 = .ok (.invokestatic 57, 3) := by decide +kernel
theorem dX1_innerLevel_29 : decode cX1_innerLevel 29 = .ok (.ireturn, 1) := by decide +kernel
theorem dX1_isBefore_0 : decode cX1_isBefore 0 = .ok (.iconst 1, 1) := by decide +kernel
theorem dX1_isBefore_1 : decode cX1_isBefore 1 = .ok (.istore_n 3, 1) := by decide +kernel
theorem dX1_isBefore_2 : decode cX1_isBefore 2 = .ok (.iload_n 3, 1) := by decide +kernel
theorem dX1_isBefore_3 : decode cX1_isBefore 3 = .ok (.bipush 12, 2) := by decide +kernel
theorem dX1_isBefore_5 : decode cX1_isBefore 5 = .ok (.if_icmp .gt 45, 3) := by decide +kernel
theorem dX1_isBefore_8 : decode cX1_isBefore 8 = .ok (.aload_n 0, 1) := by decide +kernel
theorem dX1_isBefore_9 : decode cX1_isBefore 9 = .ok (.iload_n 1, 1) := by decide +kernel
theorem dX1_isBefore_10 : decode cX1_isBefore 10 = .ok (.iload_n 3, 1) := by decide +kernel
theorem dX1_isBefore_11 : decode cX1_isBefore 11 = .ok (.invokevirtual 30, 3) := by decide +kernel
theorem dX1_isBefore_14 : decode cX1_isBefore 14 = .ok (.istore 4, 2) := by decide +kernel
theorem dX1_isBefore_16 : decode cX1_isBefore 16 = .ok (.aload_n 0, 1) := by decide +kernel
theorem dX1_isBefore_17 : decode cX1_isBefore 17 = .ok (.iload_n 2, 1) := by decide +kernel
theorem dX1_isBefore_18 : decode cX1_isBefore 18 = .ok (.iload_n 3, 1) := by decide +kernel
theorem dX1_isBefore_19 : decode cX1_isBefore 19 = .ok (.invokevirtual 30, 3) := by decide +kernel
theorem dX1_isBefore_22 : decode cX1_isBefore 22 = .ok (.istore 5, 2) := by decide +kernel
theorem dX1_isBefore_24 : decode cX1_isBefore 24 = .ok (.iload 4, 2) := by decide +kernel
theorem dX1_isBefore_26 : decode cX1_isBefore 26 = .ok (.iload 5, 2) := by decide +kernel
theorem dX1_isBefore_28 : decode cX1_isBefore 28 = .ok (.if_icmp .eq 16, 3) := by decide +kernel
theorem dX1_isBefore_31 : decode cX1_isBefore 31 = .ok (.iload 4, 2) := by decide +kernel
theorem dX1_isBefore_33 : decode cX1_isBefore 33 = .ok (.iload 5, 2) := by decide +kernel
theorem dX1_isBefore_35 : decode cX1_isBefore 35 = .ok (.if_icmp .ge 7, 3) := by decide +kernel
theorem dX1_isBefore_38 : decode cX1_isBefore 38 = .ok (.iconst 1, 1) := by decide +kernel
theorem dX1_isBefore_39 : decode cX1_isBefore 39 = .ok (.goto 4, 3) := by decide +kernel
theorem dX1_isBefore_42 : decode cX1_isBefore 42 = .ok (.iconst 0, 1) := by decide +kernel
theorem dX1_isBefore_43 : decode cX1_isBefore 43 = .ok (.ireturn, 1) := by decide +kernel
theorem dX1_isBefore_44 : decode cX1_isBefore 44 = .ok (.iinc 3 1, 3) := by decide +kernel
theorem dX1_isBefore_47 : decode cX1_isBefore 47 = .ok (.goto (-45), 3) := by decide +kernel
theorem dX1_isBefore_50 : decode cX1_isBefore 50 = .ok (.iconst 0, 1) := by decide +kernel
theorem dX1_isBefore_51 : decode cX1_isBefore 51 = .ok (.ireturn, 1) := by decide +kernel
theorem dX1_insert_0 : decode cX1_insert 0 = .ok (.iload_n 2, 1) := by decide +kernel
theorem dX1_insert_1 : decode cX1_insert 1 = .ok (.iconst (-1), 1) := by decide +kernel
theorem dX1_insert_2 : decode cX1_insert 2 = .ok (.if_icmp .ne 7, 3) := by decide +kernel
theorem dX1_insert_5 : decode cX1_insert 5 = .ok (.iconst 0, 1) := by decide +kernel
theorem dX1_insert_6 : decode cX1_insert 6 = .ok (.goto 11, 3) := by decide +kernel
theorem dX1_insert_9 : decode cX1_insert 9 = .ok (.aload_n 0, 1) := by decide +kernel
theorem dX1_insert_10 : decode cX1_insert 10 = .ok (.getfield 21, 3) := by decide +kernel
theorem dX1_insert_13 : decode cX1_insert 13 = .ok (.iload_n 2, 1) := by decide +kernel
theorem dX1_insert_14 : decode cX1_insert 14 = .ok (.iaload, 1) := by decide +kernel
theorem dX1_insert_15 : decode cX1_insert 15 = .ok (.iconst 1, 1) := by decide +kernel
theorem dX1_insert_16 : decode cX1_insert 16 = .ok (.iadd, 1) := by decide +kernel
theorem dX1_insert_17 : decode cX1_insert 17 = .ok (.istore_n 3, 1) := by decide +kernel
theorem dX1_insert_18 : decode cX1_insert 18 = .ok (.iload_n 3, 1) := by decide +kernel
theorem dX1_insert_19 : decode cX1_insert 19 = .ok (.aload_n 0, 1) := by decide +kernel
theorem dX1_insert_20 : decode cX1_insert 20 = .ok (.getfield 65, 3) := by decide +kernel
theorem dX1_insert_23 : decode cX1_insert 23 = .ok (.if_icmp .ge 23, 3) := by decide +kernel
theorem dX1_insert_26 : decode cX1_insert 26 = .ok (.aload_n 0, 1) := by decide +kernel
theorem dX1_insert_27 : decode cX1_insert 27 = .ok (.aload_n 0, 1) := by decide +kernel
theorem dX1_insert_28 : decode cX1_insert 28 = .ok (.getfield 18, 3) := by decide +kernel
theorem dX1_insert_31 : decode cX1_insert 31 = .ok (.iload_n 3, 1) := by decide +kernel
theorem dX1_insert_32 : decode cX1_insert 32 = .ok (.iaload, 1) := by decide +kernel
theorem dX1_insert_33 : decode cX1_insert 33 = .ok (.iload_n 1, 1) := by decide +kernel
theorem dX1_insert_34 : decode cX1_insert 34 = .ok (.invokevirtual 68, 3) := by decide +kernel
theorem dX1_insert_37 : decode cX1_insert 37 = .ok (.ifCond .eq 9, 3) := by decide +kernel
theorem dX1_insert_40 : decode cX1_insert 40 = .ok (.iinc 3 1, 3) := by decide +kernel
theorem dX1_insert_43 : decode cX1_insert 43 = .ok (.goto (-25), 3) := by decide +kernel
theorem dX1_insert_46 : decode cX1_insert 46 = .ok (.aload_n 0, 1) := by decide +kernel
theorem dX1_insert_47 : decode cX1_insert 47 = .ok (.getfield 65, 3) := by decide +kernel
theorem dX1_insert_50 : decode cX1_insert 50 = .ok (.istore 4, 2) := by decide +kernel
theorem dX1_insert_52 : decode cX1_insert 52 = .ok (.iload 4, 2) := by decide +kernel
theorem dX1_insert_54 : decode cX1_insert 54 = .ok (.iload_n 3, 1) := by decide +kernel
theorem dX1_insert_55 : decode cX1_insert 55 = .ok (.if_icmp .le 39, 3) := by decide +kernel
theorem dX1_insert_58 : decode cX1_insert 58 = .ok (.aload_n 0, 1) := by decide +kernel
theorem dX1_insert_59 : decode cX1_insert 59 = .ok (.getfield 18, 3) := by decide +kernel
theorem dX1_insert_62 : decode cX1_insert 62 = .ok (.iload 4, 2) := by decide +kernel
theorem dX1_insert_64 : decode cX1_insert 64 = .ok (.aload_n 0, 1) := by decide +kernel
theorem dX1_insert_65 : decode cX1_insert 65 = .ok (.getfield 18, 3) := by decide +kernel
theorem dX1_insert_68 : decode cX1_insert 68 = .ok (.iload 4, 2) := by decide +kernel
theorem dX1_insert_70 : decode cX1_insert 70 = .ok (.iconst 1, 1) := by decide +kernel
theorem dX1_insert_71 : decode cX1_insert 71 = .ok (.isub, 1) := by decide +kernel
theorem dX1_insert_72 : decode cX1_insert 72 = .ok (.iaload, 1) := by decide +kernel
theorem dX1_insert_73 : decode cX1_insert 73 = .ok (.iastore, 1) := by decide +kernel
theorem dX1_insert_74 : decode cX1_insert 74 = .ok (.aload_n 0, 1) := by decide +kernel
theorem dX1_insert_75 : decode cX1_insert 75 = .ok (.getfield 21, 3) := by decide +kernel
theorem dX1_insert_78 : decode cX1_insert 78 = .ok (.aload_n 0, 1) := by decide +kernel
theorem dX1_insert_79 : decode cX1_insert 79 = .ok (.getfield 18, 3) := by decide +kernel
theorem dX1_insert_82 : decode cX1_insert 82 = .ok (.iload 4, 2) := by decide +kernel
theorem dX1_insert_84 : decode cX1_insert 84 = .ok (.iaload, 1) := by decide +kernel
theorem dX1_insert_85 : decode cX1_insert 85 = .ok (.iload 4, 2) := by decide +kernel
theorem dX1_insert_87 : decode cX1_insert 87 = .ok (.iastore, 1) := by decide +kernel
theorem dX1_insert_88 : decode cX1_insert 88 = .ok (.iinc 4 (-1), 3) := by decide +kernel
theorem dX1_insert_91 : decode cX1_insert 91 = .ok (.goto (-39), 3) := by decide +kernel
theorem dX1_insert_94 : decode cX1_insert 94 = .ok (.aload_n 0, 1) := by decide +kernel
theorem dX1_insert_95 : decode cX1_insert 95 = .ok (.getfield 18, 3) := by decide +kernel
theorem dX1_insert_98 : decode cX1_insert 98 = .ok (.iload_n 3, 1) := by decide +kernel
theorem dX1_insert_99 : decode cX1_insert 99 = .ok (.iload_n 1, 1) := by decide +kernel
theorem dX1_insert_100 : decode cX1_insert 100 = .ok (.iastore, 1) := by decide +kernel
theorem dX1_insert_101 : decode cX1_insert 101 = .ok (.aload_n 0, 1) := by decide +kernel
theorem dX1_insert_102 : decode cX1_insert 102 = .ok (.getfield 21, 3) := by decide +kernel
theorem dX1_insert_105 : decode cX1_insert 105 = .ok (.iload_n 1, 1) := by decide +kernel
theorem dX1_insert_106 : decode cX1_insert 106 = .ok (.iload_n 3, 1) := by decide +kernel
theorem dX1_insert_107 : decode cX1_insert 107 = .ok (.iastore, 1) := by decide +kernel
theorem dX1_insert_108 : decode cX1_insert 108 = .ok (.aload_n 0, 1) := by decide +kernel
theorem dX1_insert_109 : decode cX1_insert 109 = .ok (.dup, 1) := by decide +kernel
theorem dX1_insert_110 : decode cX1_insert 110 = .ok (.getfield 65, 3) := by decide +kernel
theorem dX1_insert_113 : decode cX1_insert 113 = .ok (.iconst 1, 1) := by decide +kernel
theorem dX1_insert_114 : decode cX1_insert 114 = .ok (.iadd, 1) := by decide +kernel
theorem dX1_insert_115 : decode cX1_insert 115 = .ok (.putfield 65, 3) := by decide +kernel
theorem dX1_insert_118 : decode cX1_insert 118 = .ok (.return_, 1) := by decide +kernel
theorem dX2_init_0 : decode cX2_init 0 = .ok (.aload_n 0, 1) := by decide +kernel
theorem dX2_init_1 : decode cX2_init 1 = .ok (.invokespecial 3, 3) := by decide +kernel
theorem dX2_init_4 : decode cX2_init 4 = .ok (.aload_n 0, 1) := by decide +kernel
theorem dX2_init_5 : decode cX2_init 5 = .ok (.bipush 6, 2) := by decide +kernel
theorem dX2_init_7 : decode cX2_init 7 = .ok (.newarray .int, 2) := by decide +kernel
theorem dX2_init_9 : decode cX2_init 9 = .ok (.putfield 9, 3) := by decide +kernel
theorem dX2_init_12 : decode cX2_init 12 = .ok (.aload_n 0, 1) := by decide +kernel
theorem dX2_init_13 : decode cX2_init 13 = .ok (.sipush 400, 3) := by decide +kernel
theorem dX2_init_16 : decode cX2_init 16 = .ok (.newarray .boolean, 2) := by decide +kernel
theorem dX2_init_18 : decode cX2_init 18 = .ok (.putfield 15, 3) := by decide +kernel
theorem dX2_init_21 : decode cX2_init 21 = .ok (.aload_n 0, 1) := by decide +kernel
theorem dX2_init_22 : decode cX2_init 22 = .ok (.sipush 400, 3) := by decide +kernel
theorem dX2_init_25 : decode cX2_init 25 = .ok (.newarray .int, 2) := by decide +kernel
theorem dX2_init_27 : decode cX2_init 27 = .ok (.putfield 19, 3) := by decide +kernel
theorem dX2_init_30 : decode cX2_init 30 = .ok (.aload_n 0, 1) := by decide +kernel
theorem dX2_init_31 : decode cX2_init 31 = .ok (.iconst 4, 1) := by decide +kernel
theorem dX2_init_32 : decode cX2_init 32 = .ok (.newarray .int, 2) := by decide +kernel
theorem dX2_init_34 : decode cX2_init 34 = .ok (.putfield 22, 3) := by decide +kernel
theorem dX2_init_37 : decode cX2_init 37 = .ok (.aload_n 0, 1) := by decide +kernel
theorem dX2_init_38 : decode cX2_init 38 = .ok (.bipush 8, 2) := by decide +kernel
theorem dX2_init_40 : decode cX2_init 40 = .ok (.newarray .int, 2) := by decide +kernel
theorem dX2_init_42 : decode cX2_init 42 = .ok (.putfield 25, 3) := by decide +kernel
theorem dX2_init_45 : decode cX2_init 45 = .ok (.aload_n 0, 1) := by decide +kernel
theorem dX2_init_46 : decode cX2_init 46 = .ok (.iload_n 1, 1) := by decide +kernel
theorem dX2_init_47 : decode cX2_init 47 = .ok (.putfield 28, 3) := by decide +kernel
theorem dX2_init_50 : decode cX2_init 50 = .ok (.aload_n 0, 1) := by decide +kernel
theorem dX2_init_51 : decode cX2_init 51 = .ok (.aload_n 2, 1) := by decide +kernel
theorem dX2_init_52 : decode cX2_init 52 = .ok (.putfield 32, 3) := by decide +kernel
theorem dX2_init_55 : decode cX2_init 55 = .ok (.aload_n 0, 1) := by decide +kernel
theorem dX2_init_56 : decode cX2_init 56 = .ok (.aload_n 3, 1) := by decide +kernel
theorem dX2_init_57 : decode cX2_init 57 = .ok (.putfield 36, 3) := by decide +kernel
theorem dX2_init_60 : decode cX2_init 60 = .ok (.aload_n 0, 1) := by decide +kernel
theorem dX2_init_61 : decode cX2_init 61 = .ok (.iload_n 1, 1) := by decide +kernel
theorem dX2_init_62 : decode cX2_init 62 = .ok (.putfield 40, 3) := by decide +kernel
theorem dX2_init_65 : decode cX2_init 65 = .ok (.iconst 0, 1) := by decide +kernel
theorem dX2_init_66 : decode cX2_init 66 = .ok (.istore 4, 2) := by decide +kernel
theorem dX2_init_68 : decode cX2_init 68 = .ok (.iload 4, 2) := by decide +kernel
theorem dX2_init_70 : decode cX2_init 70 = .ok (.sipush 400, 3) := by decide +kernel
theorem dX2_init_73 : decode cX2_init 73 = .ok (.if_icmp .ge 17, 3) := by decide +kernel
theorem dX2_init_76 : decode cX2_init 76 = .ok (.aload_n 0, 1) := by decide +kernel
theorem dX2_init_77 : decode cX2_init 77 = .ok (.getfield 19, 3) := by decide +kernel
theorem dX2_init_80 : decode cX2_init 80 = .ok (.iload 4, 2) := by decide +kernel
theorem dX2_init_82 : decode cX2_init 82 = .ok (.iconst (-1), 1) := by decide +kernel
theorem dX2_init_83 : decode cX2_init 83 = .ok (.iastore, 1) := by decide +kernel
theorem dX2_init_84 : decode cX2_init 84 = .ok (.iinc 4 1, 3) := by decide +kernel
theorem dX2_init_87 : decode cX2_init 87 = .ok (.goto (-19), 3) := by decide +kernel
theorem dX2_init_90 : decode cX2_init 90 = .ok (.iconst 0, 1) := by decide +kernel
theorem dX2_init_91 : decode cX2_init 91 = .ok (.istore 4, 2) := by decide +kernel
theorem dX2_init_93 : decode cX2_init 93 = .ok (.iload 4, 2) := by decide +kernel
theorem dX2_init_95 : decode cX2_init 95 = .ok (.iconst 4, 1) := by decide +kernel
theorem dX2_init_96 : decode cX2_init 96 = .ok (.if_icmp .ge 17, 3) := by decide +kernel
theorem dX2_init_99 : decode cX2_init 99 = .ok (.aload_n 0, 1) := by decide +kernel
theorem dX2_init_100 : decode cX2_init 100 = .ok (.getfield 22, 3) := by decide +kernel
theorem dX2_init_103 : decode cX2_init 103 = .ok (.iload 4, 2) := by decide +kernel
theorem dX2_init_105 : decode cX2_init 105 = .ok (.iconst (-1), 1) := by decide +kernel
theorem dX2_init_106 : decode cX2_init 106 = .ok (.iastore, 1) := by decide +kernel
theorem dX2_init_107 : decode cX2_init 107 = .ok (.iinc 4 1, 3) := by decide +kernel
theorem dX2_init_110 : decode cX2_init 110 = .ok (.goto (-17), 3) := by decide +kernel
theorem dX2_init_113 : decode cX2_init 113 = .ok (.return_, 1) := by decide +kernel
theorem dX2_throwCoin_0 : decode cX2_throwCoin 0 = .ok (.aload_n 0, 1) := by decide +kernel
theorem dX2_throwCoin_1 : decode cX2_throwCoin 1 = .ok (.aload_n 0, 1) := by decide +kernel
theorem dX2_throwCoin_2 : decode cX2_throwCoin 2 = .ok (.getfield 40, 3) := by decide +kernel
theorem dX2_throwCoin_5 : decode cX2_throwCoin 5 = .ok (.ldc 43, 2) := by decide +kernel
theorem dX2_throwCoin_7 : decode cX2_throwCoin 7 = .ok (.imul, 1) := by decide +kernel
theorem dX2_throwCoin_8 : decode cX2_throwCoin 8 = .ok (.ldc 44, 2) := by decide +kernel
theorem dX2_throwCoin_10 : decode cX2_throwCoin 10 = .ok (.iadd, 1) := by decide +kernel
theorem dX2_throwCoin_11 : decode cX2_throwCoin 11 = .ok (.putfield 40, 3) := by decide +kernel
theorem dX2_throwCoin_14 : decode cX2_throwCoin 14 = .ok (.aload_n 0, 1) := by decide +kernel
theorem dX2_throwCoin_15 : decode cX2_throwCoin 15 = .ok (.getfield 40, 3) := by decide +kernel
theorem dX2_throwCoin_18 : decode cX2_throwCoin 18 = .ok (.bipush 16, 2) := by decide +kernel
theorem dX2_throwCoin_20 : decode cX2_throwCoin 20 = .ok (.iushr, 1) := by decide +kernel
theorem dX2_throwCoin_21 : decode cX2_throwCoin 21 = .ok (.ireturn, 1) := by decide +kernel
theorem dX2_nextNumber_0 : decode cX2_nextNumber 0 = .ok (.aload_n 0, 1) := by decide +kernel
theorem dX2_nextNumber_1 : decode cX2_nextNumber 1 = .ok (.getfield 9, 3) := by decide +kernel
theorem dX2_nextNumber_4 : decode cX2_nextNumber 4 = .ok (.aload_n 0, 1) := by decide +kernel
theorem dX2_nextNumber_5 : decode cX2_nextNumber 5 = .ok (.getfield 28, 3) := by decide +kernel
theorem dX2_nextNumber_8 : decode cX2_nextNumber 8 = .ok (.iaload, 1) := by decide +kernel
theorem dX2_nextNumber_9 : decode cX2_nextNumber 9 = .ok (.iconst 1, 1) := by decide +kernel
theorem dX2_nextNumber_10 : decode cX2_nextNumber 10 = .ok (.iadd, 1) := by decide +kernel
theorem dX2_nextNumber_11 : decode cX2_nextNumber 11 = .ok (.ireturn, 1) := by decide +kernel
theorem dX2_doneInAll_0 : decode cX2_doneInAll 0 = .ok (.iconst 0, 1) := by decide +kernel
theorem dX2_doneInAll_1 : decode cX2_doneInAll 1 = .ok (.istore_n 1, 1) := by decide +kernel
theorem dX2_doneInAll_2 : decode cX2_doneInAll 2 = .ok (.iconst 0, 1) := by decide +kernel
theorem dX2_doneInAll_3 : decode cX2_doneInAll 3 = .ok (.istore_n 2, 1) := by decide +kernel
theorem dX2_doneInAll_4 : decode cX2_doneInAll 4 = .ok (.iload_n 2, 1) := by decide +kernel
theorem dX2_doneInAll_5 : decode cX2_doneInAll 5 = .ok (.bipush 6, 2) := by decide +kernel
theorem dX2_doneInAll_7 : decode cX2_doneInAll 7 = .ok (.if_icmp .ge 18, 3) := by decide +kernel
theorem dX2_doneInAll_10 : decode cX2_doneInAll 10 = .ok (.iload_n 1, 1) := by decide +kernel
theorem dX2_doneInAll_11 : decode cX2_doneInAll 11 = .ok (.aload_n 0, 1) := by decide +kernel
theorem dX2_doneInAll_12 : decode cX2_doneInAll 12 = .ok (.getfield 9, 3) := by decide +kernel
theorem dX2_doneInAll_15 : decode cX2_doneInAll 15 = .ok (.iload_n 2, 1) := by decide +kernel
theorem dX2_doneInAll_16 : decode cX2_doneInAll 16 = .ok (.iaload, 1) := by decide +kernel
theorem dX2_doneInAll_17 : decode cX2_doneInAll 17 = .ok (.iadd, 1) := by decide +kernel
theorem dX2_doneInAll_18 : decode cX2_doneInAll 18 = .ok (.istore_n 1, 1) := by decide +kernel
theorem dX2_doneInAll_19 : decode cX2_doneInAll 19 = .ok (.iinc 2 1, 3) := by decide +kernel
theorem dX2_doneInAll_22 : decode cX2_doneInAll 22 = .ok (.goto (-18), 3) := by decide +kernel
theorem dX2_doneInAll_25 : decode cX2_doneInAll 25 = .ok (.iload_n 1, 1) := by decide +kernel
theorem dX2_doneInAll_26 : decode cX2_doneInAll 26 = .ok (.ireturn, 1) := by decide +kernel
theorem dX2_didDeed_0 : decode cX2_didDeed 0 = .ok (.aload_n 0, 1) := by decide +kernel
theorem dX2_didDeed_1 : decode cX2_didDeed 1 = .ok (.getfield 32, 3) := by decide +kernel
theorem dX2_didDeed_4 : decode cX2_didDeed 4 = .ok (.getfield 45, 3) := by decide +kernel
theorem dX2_didDeed_7 : decode cX2_didDeed 7 = .ok (.iload_n 1, 1) := by decide +kernel
theorem dX2_didDeed_8 : decode cX2_didDeed 8 = .ok (.iaload, 1) := by decide +kernel
theorem dX2_didDeed_9 : decode cX2_didDeed 9 = .ok (.aload_n 0, 1) := by decide +kernel
theorem dX2_didDeed_10 : decode cX2_didDeed 10 = .ok (.getfield 9, 3) := by decide +kernel
theorem dX2_didDeed_13 : decode cX2_didDeed 13 = .ok (.aload_n 0, 1) := by decide +kernel
theorem dX2_didDeed_14 : decode cX2_didDeed 14 = .ok (.getfield 32, 3) := by decide +kernel
theorem dX2_didDeed_17 : decode cX2_didDeed 17 = .ok (.getfield 50, 3) := by decide +kernel
theorem dX2_didDeed_20 : decode cX2_didDeed 20 = .ok (.iload_n 1, 1) := by decide +kernel
theorem dX2_didDeed_21 : decode cX2_didDeed 21 = .ok (.iaload, 1) := by decide +kernel
theorem dX2_didDeed_22 : decode cX2_didDeed 22 = .ok (.iaload, 1) := by decide +kernel
theorem dX2_didDeed_23 : decode cX2_didDeed 23 = .ok (.if_icmp .gt 7, 3) := by decide +kernel
theorem dX2_didDeed_26 : decode cX2_didDeed 26 = .ok (.iconst 1, 1) := by decide +kernel
theorem dX2_didDeed_27 : decode cX2_didDeed 27 = .ok (.goto 4, 3) := by decide +kernel
theorem dX2_didDeed_30 : decode cX2_didDeed 30 = .ok (.iconst 0, 1) := by decide +kernel
theorem dX2_didDeed_31 : decode cX2_didDeed 31 = .ok (.ireturn, 1) := by decide +kernel
theorem dX2_isReady_0 : decode cX2_isReady 0 = .ok (.aload_n 0, 1) := by decide +kernel
theorem dX2_isReady_1 : decode cX2_isReady 1 = .ok (.getfield 32, 3) := by decide +kernel
theorem dX2_isReady_4 : decode cX2_isReady 4 = .ok (.getfield 45, 3) := by decide +kernel
theorem dX2_isReady_7 : decode cX2_isReady 7 = .ok (.iload_n 1, 1) := by decide +kernel
theorem dX2_isReady_8 : decode cX2_isReady 8 = .ok (.iaload, 1) := by decide +kernel
theorem dX2_isReady_9 : decode cX2_isReady 9 = .ok (.iconst 1, 1) := by decide +kernel
theorem dX2_isReady_10 : decode cX2_isReady 10 = .ok (.isub, 1) := by decide +kernel
theorem dX2_isReady_11 : decode cX2_isReady 11 = .ok (.aload_n 0, 1) := by decide +kernel
theorem dX2_isReady_12 : decode cX2_isReady 12 = .ok (.getfield 9, 3) := by decide +kernel
theorem dX2_isReady_15 : decode cX2_isReady 15 = .ok (.aload_n 0, 1) := by decide +kernel
theorem dX2_isReady_16 : decode cX2_isReady 16 = .ok (.getfield 32, 3) := by decide +kernel
theorem dX2_isReady_19 : decode cX2_isReady 19 = .ok (.getfield 50, 3) := by decide +kernel
theorem dX2_isReady_22 : decode cX2_isReady 22 = .ok (.iload_n 1, 1) := by decide +kernel
theorem dX2_isReady_23 : decode cX2_isReady 23 = .ok (.iaload, 1) := by decide +kernel
theorem dX2_isReady_24 : decode cX2_isReady 24 = .ok (.iaload, 1) := by decide +kernel
theorem dX2_isReady_25 : decode cX2_isReady 25 = .ok (.if_icmp .eq 5, 3) := by decide +kernel
theorem dX2_isReady_28 : decode cX2_isReady 28 = .ok (.iconst 0, 1) := by decide +kernel
theorem dX2_isReady_29 : decode cX2_isReady 29 = .ok (.ireturn, 1) := by decide +kernel
theorem dX2_isReady_30 : decode cX2_isReady 30 = .ok (.aload_n 0, 1) := by decide +kernel
theorem dX2_isReady_31 : decode cX2_isReady 31 = .ok (.getfield 32, 3) := by decide +kernel
theorem dX2_isReady_34 : decode cX2_isReady 34 = .ok (.getfield 53, 3) := by decide +kernel
theorem dX2_isReady_37 : decode cX2_isReady 37 = .ok (.iload_n 1, 1) := by decide +kernel
theorem dX2_isReady_38 : decode cX2_isReady 38 = .ok (.iaload, 1) := by decide +kernel
theorem dX2_isReady_39 : decode cX2_isReady 39 = .ok (.ifCond .eq 35, 3) := by decide +kernel
theorem dX2_isReady_42 : decode cX2_isReady 42 = .ok (.aload_n 0, 1) := by decide +kernel
theorem dX2_isReady_43 : decode cX2_isReady 43 = .ok (.aload_n 0, 1) := by decide +kernel
theorem dX2_isReady_44 : decode cX2_isReady 44 = .ok (.getfield 32, 3) := by decide +kernel
theorem dX2_isReady_47 : decode cX2_isReady 47 = .ok (.getfield 56, 3) := by decide +kernel
theorem dX2_isReady_50 : decode cX2_isReady 50 = .ok (.iload_n 1, 1) := by decide +kernel
theorem dX2_isReady_51 : decode cX2_isReady 51 = .ok (.iaload, 1) := by decide +kernel
theorem dX2_isReady_52 : decode cX2_isReady 52 = .ok (.invokevirtual 59, 3) := by decide +kernel
theorem dX2_isReady_55 : decode cX2_isReady 55 = .ok (.ifCond .eq 23, 3) := by decide +kernel
theorem dX2_isReady_58 : decode cX2_isReady 58 = .ok (.aload_n 0, 1) := by decide +kernel
theorem dX2_isReady_59 : decode cX2_isReady 59 = .ok (.aload_n 0, 1) := by decide +kernel
theorem dX2_isReady_60 : decode cX2_isReady 60 = .ok (.getfield 32, 3) := by decide +kernel
theorem dX2_isReady_63 : decode cX2_isReady 63 = .ok (.getfield 63, 3) := by decide +kernel
theorem dX2_isReady_66 : decode cX2_isReady 66 = .ok (.iload_n 1, 1) := by decide +kernel
theorem dX2_isReady_67 : decode cX2_isReady 67 = .ok (.iaload, 1) := by decide +kernel
theorem dX2_isReady_68 : decode cX2_isReady 68 = .ok (.invokevirtual 59, 3) := by decide +kernel
theorem dX2_isReady_71 : decode cX2_isReady 71 = .ok (.ifCond .eq 7, 3) := by decide +kernel
theorem dX2_isReady_74 : decode cX2_isReady 74 = .ok (.iconst 1, 1) := by decide +kernel
theorem dX2_isReady_75 : decode cX2_isReady 75 = .ok (.goto 4, 3) := by decide +kernel
theorem dX2_isReady_78 : decode cX2_isReady 78 = .ok (.iconst 0, 1) := by decide +kernel
theorem dX2_isReady_79 : decode cX2_isReady 79 = .ok (.ireturn, 1) := by decide +kernel
theorem dX2_receive_0 : decode cX2_receive 0 = .ok (.aload_n 0, 1) := by decide +kernel
theorem dX2_receive_1 : decode cX2_receive 1 = .ok (.iload_n 1, 1) := by decide +kernel
theorem dX2_receive_2 : decode cX2_receive 2 = .ok (.invokevirtual 59, 3) := by decide +kernel
theorem dX2_receive_5 : decode cX2_receive 5 = .ok (.ifCond .ne 12, 3) := by decide +kernel
theorem dX2_receive_8 : decode cX2_receive 8 = .ok (.aload_n 0, 1) := by decide +kernel
theorem dX2_receive_9 : decode cX2_receive 9 = .ok (.getfield 15, 3) := by decide +kernel
theorem dX2_receive_12 : decode cX2_receive 12 = .ok (.iload_n 1, 1) := by decide +kernel
theorem dX2_receive_13 : decode cX2_receive 13 = .ok (.baload, 1) := by decide +kernel
theorem dX2_receive_14 : decode cX2_receive 14 = .ok (.ifCond .eq 5, 3) := by decide +kernel
theorem dX2_receive_17 : decode cX2_receive 17 = .ok (.iconst 0, 1) := by decide +kernel
theorem dX2_receive_18 : decode cX2_receive 18 = .ok (.ireturn, 1) := by decide +kernel
theorem dX2_receive_19 : decode cX2_receive 19 = .ok (.aload_n 0, 1) := by decide +kernel
theorem dX2_receive_20 : decode cX2_receive 20 = .ok (.iload_n 1, 1) := by decide +kernel
theorem dX2_receive_21 : decode cX2_receive 21 = .ok (.invokevirtual 66, 3) := by decide +kernel
theorem dX2_receive_24 : decode cX2_receive 24 = .ok (.ifCond .ne 22, 3) := by decide +kernel
theorem dX2_receive_27 : decode cX2_receive 27 = .ok (.aload_n 0, 1) := by decide +kernel
theorem dX2_receive_28 : decode cX2_receive 28 = .ok (.getfield 15, 3) := by decide +kernel
theorem dX2_receive_31 : decode cX2_receive 31 = .ok (.iload_n 1, 1) := by decide +kernel
theorem dX2_receive_32 : decode cX2_receive 32 = .ok (.iconst 1, 1) := by decide +kernel
theorem dX2_receive_33 : decode cX2_receive 33 = .ok (.bastore, 1) := by decide +kernel
theorem dX2_receive_34 : decode cX2_receive 34 = .ok (.aload_n 0, 1) := by decide +kernel
theorem dX2_receive_35 : decode cX2_receive 35 = .ok (.dup, 1) := by decide +kernel
theorem dX2_receive_36 : decode cX2_receive 36 = .ok (.getfield 69, 3) := by decide +kernel
theorem dX2_receive_39 : decode cX2_receive 39 = .ok (.iconst 1, 1) := by decide +kernel
theorem dX2_receive_40 : decode cX2_receive 40 = .ok (.iadd, 1) := by decide +kernel
theorem dX2_receive_41 : decode cX2_receive 41 = .ok (.putfield 69, 3) := by decide +kernel
theorem dX2_receive_44 : decode cX2_receive 44 = .ok (.iconst 2, 1) := by decide +kernel
theorem dX2_receive_45 : decode cX2_receive 45 = .ok (.ireturn, 1) := by decide +kernel
theorem dX2_receive_46 : decode cX2_receive 46 = .ok (.aload_n 0, 1) := by decide +kernel
theorem dX2_receive_47 : decode cX2_receive 47 = .ok (.iload_n 1, 1) := by decide +kernel
theorem dX2_receive_48 : decode cX2_receive 48 = .ok (.invokevirtual 72, 3) := by decide +kernel
theorem dX2_receive_51 : decode cX2_receive 51 = .ok (.aload_n 0, 1) := by decide +kernel
theorem dX2_receive_52 : decode cX2_receive 52 = .ok (.invokevirtual 76, 3) := by decide +kernel
theorem dX2_receive_55 : decode cX2_receive 55 = .ok (.iconst 1, 1) := by decide +kernel
theorem dX2_receive_56 : decode cX2_receive 56 = .ok (.ireturn, 1) := by decide +kernel
theorem dX2_doWhatWaited_0 : decode cX2_doWhatWaited 0 = .ok (.iconst 0, 1) := by decide +kernel
theorem dX2_doWhatWaited_1 : decode cX2_doWhatWaited 1 = .ok (.istore_n 1, 1) := by decide +kernel
theorem dX2_doWhatWaited_2 : decode cX2_doWhatWaited 2 = .ok (.iload_n 1, 1) := by decide +kernel
theorem dX2_doWhatWaited_3 : decode cX2_doWhatWaited 3 = .ok (.sipush 400, 3) := by decide +kernel
theorem dX2_doWhatWaited_6 : decode cX2_doWhatWaited 6 = .ok (.if_icmp .ge 49, 3) := by decide +kernel
theorem dX2_doWhatWaited_9 : decode cX2_doWhatWaited 9 = .ok (.aload_n 0, 1) := by decide +kernel
theorem dX2_doWhatWaited_10 : decode cX2_doWhatWaited 10 = .ok (.getfield 69, 3) := by decide +kernel
theorem dX2_doWhatWaited_13 : decode cX2_doWhatWaited 13 = .ok (.ifCond .le 42, 3) := by decide +kernel
theorem dX2_doWhatWaited_16 : decode cX2_doWhatWaited 16 = .ok (.aload_n 0, 1) := by decide +kernel
theorem dX2_doWhatWaited_17 : decode cX2_doWhatWaited 17 = .ok (.invokevirtual 79, 3) := by decide +kernel
theorem dX2_doWhatWaited_20 : decode cX2_doWhatWaited 20 = .ok (.istore_n 2, 1) := by decide +kernel
theorem dX2_doWhatWaited_21 : decode cX2_doWhatWaited 21 = .ok (.iload_n 2, 1) := by decide +kernel
theorem dX2_doWhatWaited_22 : decode cX2_doWhatWaited 22 = .ok (.iconst (-1), 1) := by decide +kernel
theorem dX2_doWhatWaited_23 : decode cX2_doWhatWaited 23 = .ok (.if_icmp .ne 4, 3) := by decide +kernel
theorem dX2_doWhatWaited_26 : decode cX2_doWhatWaited 26 = .ok (.return_, 1) := by decide +kernel
theorem dX2_doWhatWaited_27 : decode cX2_doWhatWaited 27 = .ok (.aload_n 0, 1) := by decide +kernel
theorem dX2_doWhatWaited_28 : decode cX2_doWhatWaited 28 = .ok (.getfield 15, 3) := by decide +kernel
theorem dX2_doWhatWaited_31 : decode cX2_doWhatWaited 31 = .ok (.iload_n 2, 1) := by decide +kernel
theorem dX2_doWhatWaited_32 : decode cX2_doWhatWaited 32 = .ok (.iconst 0, 1) := by decide +kernel
theorem dX2_doWhatWaited_33 : decode cX2_doWhatWaited 33 = .ok (.bastore, 1) := by decide +kernel
theorem dX2_doWhatWaited_34 : decode cX2_doWhatWaited 34 = .ok (.aload_n 0, 1) := by decide +kernel
theorem dX2_doWhatWaited_35 : decode cX2_doWhatWaited 35 = .ok (.dup, 1) := by decide +kernel
theorem dX2_doWhatWaited_36 : decode cX2_doWhatWaited 36 = .ok (.getfield 69, 3) := by decide +kernel
theorem dX2_doWhatWaited_39 : decode cX2_doWhatWaited 39 = .ok (.iconst 1, 1) := by decide +kernel
theorem dX2_doWhatWaited_40 : decode cX2_doWhatWaited 40 = .ok (.isub, 1) := by decide +kernel
theorem dX2_doWhatWaited_41 : decode cX2_doWhatWaited 41 = .ok (.putfield 69, 3) := by decide +kernel
theorem dX2_doWhatWaited_44 : decode cX2_doWhatWaited 44 = .ok (.aload_n 0, 1) := by decide +kernel
theorem dX2_doWhatWaited_45 : decode cX2_doWhatWaited 45 = .ok (.iload_n 2, 1) := by decide +kernel
theorem dX2_doWhatWaited_46 : decode cX2_doWhatWaited 46 = .ok (.invokevirtual 72, 3) := by decide +kernel
theorem dX2_doWhatWaited_49 : decode cX2_doWhatWaited 49 = .ok (.iinc 1 1, 3) := by decide +kernel
theorem dX2_doWhatWaited_52 : decode cX2_doWhatWaited 52 = .ok (.goto (-50), 3) := by decide +kernel
theorem dX2_doWhatWaited_55 : decode cX2_doWhatWaited 55 = .ok (.return_, 1) := by decide +kernel
theorem dX2_firstReady_0 : decode cX2_firstReady 0 = .ok (.iconst 0, 1) := by decide +kernel
theorem dX2_firstReady_1 : decode cX2_firstReady 1 = .ok (.istore_n 1, 1) := by decide +kernel
theorem dX2_firstReady_2 : decode cX2_firstReady 2 = .ok (.iload_n 1, 1) := by decide +kernel
theorem dX2_firstReady_3 : decode cX2_firstReady 3 = .ok (.aload_n 0, 1) := by decide +kernel
theorem dX2_firstReady_4 : decode cX2_firstReady 4 = .ok (.getfield 32, 3) := by decide +kernel
theorem dX2_firstReady_7 : decode cX2_firstReady 7 = .ok (.getfield 83, 3) := by decide +kernel
theorem dX2_firstReady_10 : decode cX2_firstReady 10 = .ok (.if_icmp .ge 28, 3) := by decide +kernel
theorem dX2_firstReady_13 : decode cX2_firstReady 13 = .ok (.aload_n 0, 1) := by decide +kernel
theorem dX2_firstReady_14 : decode cX2_firstReady 14 = .ok (.getfield 15, 3) := by decide +kernel
theorem dX2_firstReady_17 : decode cX2_firstReady 17 = .ok (.iload_n 1, 1) := by decide +kernel
theorem dX2_firstReady_18 : decode cX2_firstReady 18 = .ok (.baload, 1) := by decide +kernel
theorem dX2_firstReady_19 : decode cX2_firstReady 19 = .ok (.ifCond .eq 13, 3) := by decide +kernel
theorem dX2_firstReady_22 : decode cX2_firstReady 22 = .ok (.aload_n 0, 1) := by decide +kernel
theorem dX2_firstReady_23 : decode cX2_firstReady 23 = .ok (.iload_n 1, 1) := by decide +kernel
theorem dX2_firstReady_24 : decode cX2_firstReady 24 = .ok (.invokevirtual 66, 3) := by decide +kernel
theorem dX2_firstReady_27 : decode cX2_firstReady 27 = .ok (.ifCond .eq 5, 3) := by decide +kernel
theorem dX2_firstReady_30 : decode cX2_firstReady 30 = .ok (.iload_n 1, 1) := by decide +kernel
theorem dX2_firstReady_31 : decode cX2_firstReady 31 = .ok (.ireturn, 1) := by decide +kernel
theorem dX2_firstReady_32 : decode cX2_firstReady 32 = .ok (.iinc 1 1, 3) := by decide +kernel
theorem dX2_firstReady_35 : decode cX2_firstReady 35 = .ok (.goto (-33), 3) := by decide +kernel
theorem dX2_firstReady_38 : decode cX2_firstReady 38 = .ok (.iconst (-1), 1) := by decide +kernel
theorem dX2_firstReady_39 : decode cX2_firstReady 39 = .ok (.ireturn, 1) := by decide +kernel
theorem dX2_carryOut_0 : decode cX2_carryOut 0 = .ok (.aload_n 0, 1) := by decide +kernel
theorem dX2_carryOut_1 : decode cX2_carryOut 1 = .ok (.getfield 9, 3) := by decide +kernel
theorem dX2_carryOut_4 : decode cX2_carryOut 4 = .ok (.aload_n 0, 1) := by decide +kernel
theorem dX2_carryOut_5 : decode cX2_carryOut 5 = .ok (.getfield 32, 3) := by decide +kernel
theorem dX2_carryOut_8 : decode cX2_carryOut 8 = .ok (.getfield 50, 3) := by decide +kernel
theorem dX2_carryOut_11 : decode cX2_carryOut 11 = .ok (.iload_n 1, 1) := by decide +kernel
theorem dX2_carryOut_12 : decode cX2_carryOut 12 = .ok (.iaload, 1) := by decide +kernel
theorem dX2_carryOut_13 : decode cX2_carryOut 13 = .ok (.dup2, 1) := by decide +kernel
theorem dX2_carryOut_14 : decode cX2_carryOut 14 = .ok (.iaload, 1) := by decide +kernel
theorem dX2_carryOut_15 : decode cX2_carryOut 15 = .ok (.iconst 1, 1) := by decide +kernel
theorem dX2_carryOut_16 : decode cX2_carryOut 16 = .ok (.iadd, 1) := by decide +kernel
theorem dX2_carryOut_17 : decode cX2_carryOut 17 = .ok (.iastore, 1) := by decide +kernel
theorem dX2_carryOut_18 : decode cX2_carryOut 18 = .ok (.aload_n 0, 1) := by decide +kernel
theorem dX2_carryOut_19 : decode cX2_carryOut 19 = .ok (.aload_n 0, 1) := by decide +kernel
theorem dX2_carryOut_20 : decode cX2_carryOut 20 = .ok (.getfield 86, 3) := by decide +kernel
theorem dX2_carryOut_23 : decode cX2_carryOut 23 = .ok (.aload_n 0, 1) := by decide +kernel
theorem dX2_carryOut_24 : decode cX2_carryOut 24 = .ok (.getfield 32, 3) := by decide +kernel
theorem dX2_carryOut_27 : decode cX2_carryOut 27 = .ok (.getfield 89, 3) := by decide +kernel
theorem dX2_carryOut_30 : decode cX2_carryOut 30 = .ok (.iload_n 1, 1) := by decide +kernel
theorem dX2_carryOut_31 : decode cX2_carryOut 31 = .ok (.iaload, 1) := by decide +kernel
theorem dX2_carryOut_32 : decode cX2_carryOut 32 = .ok (.invokestatic 91, 3) := by decide +kernel
theorem dX2_carryOut_35 : decode cX2_carryOut 35 = .ok (.putfield 86, 3) := by decide +kernel
theorem dX2_carryOut_38 : decode cX2_carryOut 38 = .ok (.aload_n 0, 1) := by decide +kernel
theorem dX2_carryOut_39 : decode cX2_carryOut 39 = .ok (.getfield 32, 3) := by decide +kernel
theorem dX2_carryOut_42 : decode cX2_carryOut 42 = .ok (.getfield 53, 3) := by decide +kernel
theorem dX2_carryOut_45 : decode cX2_carryOut 45 = .ok (.iload_n 1, 1) := by decide +kernel
theorem dX2_carryOut_46 : decode cX2_carryOut 46 = .ok (.iaload, 1) := by decide +kernel
theorem dX2_carryOut_47 : decode cX2_carryOut 47 = .ok (.istore_n 2, 1) := by decide +kernel
theorem dX2_carryOut_48 : decode cX2_carryOut 48 = .ok (.iload_n 2, 1) := by decide +kernel
theorem dX2_carryOut_49 : decode cX2_carryOut 49 = .ok (.ifCond .ne 16, 3) := by decide +kernel
theorem dX2_carryOut_52 : decode cX2_carryOut 52 = .ok (.aload_n 0, 1) := by decide +kernel
theorem dX2_carryOut_53 : decode cX2_carryOut 53 = .ok (.dup, 1) := by decide +kernel
theorem dX2_carryOut_54 : decode cX2_carryOut 54 = .ok (.getfield 97, 3) := by decide +kernel
theorem dX2_carryOut_57 : decode cX2_carryOut 57 = .ok (.iconst 1, 1) := by decide +kernel
theorem dX2_carryOut_58 : decode cX2_carryOut 58 = .ok (.iadd, 1) := by decide +kernel
theorem dX2_carryOut_59 : decode cX2_carryOut 59 = .ok (.putfield 97, 3) := by decide +kernel
theorem dX2_carryOut_62 : decode cX2_carryOut 62 = .ok (.goto 57, 3) := by decide +kernel
theorem dX2_carryOut_65 : decode cX2_carryOut 65 = .ok (.iload_n 2, 1) := by decide +kernel
theorem dX2_carryOut_66 : decode cX2_carryOut 66 = .ok (.iconst 1, 1) := by decide +kernel
theorem dX2_carryOut_67 : decode cX2_carryOut 67 = .ok (.if_icmp .eq 8, 3) := by decide +kernel
theorem dX2_carryOut_70 : decode cX2_carryOut 70 = .ok (.iload_n 2, 1) := by decide +kernel
theorem dX2_carryOut_71 : decode cX2_carryOut 71 = .ok (.iconst 2, 1) := by decide +kernel
theorem dX2_carryOut_72 : decode cX2_carryOut 72 = .ok (.if_icmp .ne 47, 3) := by decide +kernel
theorem dX2_carryOut_75 : decode cX2_carryOut 75 = .ok (.aload_n 0, 1) := by decide +kernel
theorem dX2_carryOut_76 : decode cX2_carryOut 76 = .ok (.getfield 32, 3) := by decide +kernel
theorem dX2_carryOut_79 : decode cX2_carryOut 79 = .ok (.getfield 56, 3) := by decide +kernel
theorem dX2_carryOut_82 : decode cX2_carryOut 82 = .ok (.iload_n 1, 1) := by decide +kernel
theorem dX2_carryOut_83 : decode cX2_carryOut 83 = .ok (.iaload, 1) := by decide +kernel
theorem dX2_carryOut_84 : decode cX2_carryOut 84 = .ok (.istore_n 3, 1) := by decide +kernel
theorem dX2_carryOut_85 : decode cX2_carryOut 85 = .ok (.aload_n 0, 1) := by decide +kernel
theorem dX2_carryOut_86 : decode cX2_carryOut 86 = .ok (.getfield 19, 3) := by decide +kernel
theorem dX2_carryOut_89 : decode cX2_carryOut 89 = .ok (.iload_n 3, 1) := by decide +kernel
theorem dX2_carryOut_90 : decode cX2_carryOut 90 = .ok (.iaload, 1) := by decide +kernel
theorem dX2_carryOut_91 : decode cX2_carryOut 91 = .ok (.iconst (-1), 1) := by decide +kernel
theorem dX2_carryOut_92 : decode cX2_carryOut 92 = .ok (.if_icmp .eq 20, 3) := by decide +kernel
theorem dX2_carryOut_95 : decode cX2_carryOut 95 = .ok (.aload_n 0, 1) := by decide +kernel
theorem dX2_carryOut_96 : decode cX2_carryOut 96 = .ok (.getfield 32, 3) := by decide +kernel
theorem dX2_carryOut_99 : decode cX2_carryOut 99 = .ok (.iload_n 1, 1) := by decide +kernel
theorem dX2_carryOut_100 : decode cX2_carryOut 100 = .ok (.aload_n 0, 1) := by decide +kernel
theorem dX2_carryOut_101 : decode cX2_carryOut 101 = .ok (.getfield 19, 3) := by decide +kernel
theorem dX2_carryOut_104 : decode cX2_carryOut 104 = .ok (.iload_n 3, 1) := by decide +kernel
theorem dX2_carryOut_105 : decode cX2_carryOut 105 = .ok (.iaload, 1) := by decide +kernel
theorem dX2_carryOut_106 : decode cX2_carryOut 106 = .ok (.invokevirtual 100, 3) := by decide +kernel
theorem dX2_carryOut_109 : decode cX2_carryOut 109 = .ok (.ifCond .eq 10, 3) := by decide +kernel
theorem dX2_carryOut_112 : decode cX2_carryOut 112 = .ok (.aload_n 0, 1) := by decide +kernel
theorem dX2_carryOut_113 : decode cX2_carryOut 113 = .ok (.getfield 19, 3) := by decide +kernel
theorem dX2_carryOut_116 : decode cX2_carryOut 116 = .ok (.iload_n 3, 1) := by decide +kernel
theorem dX2_carryOut_117 : decode cX2_carryOut 117 = .ok (.iload_n 1, 1) := by decide +kernel
theorem dX2_carryOut_118 : decode cX2_carryOut 118 = .ok (.iastore, 1) := by decide +kernel
theorem dX2_carryOut_119 : decode cX2_carryOut 119 = .ok (.return_, 1) := by decide +kernel
theorem dX2_isAlive_0 : decode cX2_isAlive 0 = .ok (.aload_n 0, 1) := by decide +kernel
theorem dX2_isAlive_1 : decode cX2_isAlive 1 = .ok (.iload_n 1, 1) := by decide +kernel
theorem dX2_isAlive_2 : decode cX2_isAlive 2 = .ok (.invokevirtual 59, 3) := by decide +kernel
theorem dX2_isAlive_5 : decode cX2_isAlive 5 = .ok (.ifCond .eq 35, 3) := by decide +kernel
theorem dX2_isAlive_8 : decode cX2_isAlive 8 = .ok (.aload_n 0, 1) := by decide +kernel
theorem dX2_isAlive_9 : decode cX2_isAlive 9 = .ok (.getfield 19, 3) := by decide +kernel
theorem dX2_isAlive_12 : decode cX2_isAlive 12 = .ok (.iload_n 1, 1) := by decide +kernel
theorem dX2_isAlive_13 : decode cX2_isAlive 13 = .ok (.iaload, 1) := by decide +kernel
theorem dX2_isAlive_14 : decode cX2_isAlive 14 = .ok (.iconst (-1), 1) := by decide +kernel
theorem dX2_isAlive_15 : decode cX2_isAlive 15 = .ok (.if_icmp .eq 21, 3) := by decide +kernel
theorem dX2_isAlive_18 : decode cX2_isAlive 18 = .ok (.aload_n 0, 1) := by decide +kernel
theorem dX2_isAlive_19 : decode cX2_isAlive 19 = .ok (.getfield 32, 3) := by decide +kernel
theorem dX2_isAlive_22 : decode cX2_isAlive 22 = .ok (.getfield 53, 3) := by decide +kernel
theorem dX2_isAlive_25 : decode cX2_isAlive 25 = .ok (.aload_n 0, 1) := by decide +kernel
theorem dX2_isAlive_26 : decode cX2_isAlive 26 = .ok (.getfield 19, 3) := by decide +kernel
theorem dX2_isAlive_29 : decode cX2_isAlive 29 = .ok (.iload_n 1, 1) := by decide +kernel
theorem dX2_isAlive_30 : decode cX2_isAlive 30 = .ok (.iaload, 1) := by decide +kernel
theorem dX2_isAlive_31 : decode cX2_isAlive 31 = .ok (.iaload, 1) := by decide +kernel
theorem dX2_isAlive_32 : decode cX2_isAlive 32 = .ok (.iconst 1, 1) := by decide +kernel
theorem dX2_isAlive_33 : decode cX2_isAlive 33 = .ok (.if_icmp .eq 7, 3) := by decide +kernel
theorem dX2_isAlive_36 : decode cX2_isAlive 36 = .ok (.iconst 1, 1) := by decide +kernel
theorem dX2_isAlive_37 : decode cX2_isAlive 37 = .ok (.goto 4, 3) := by decide +kernel
theorem dX2_isAlive_40 : decode cX2_isAlive 40 = .ok (.iconst 0, 1) := by decide +kernel
theorem dX2_isAlive_41 : decode cX2_isAlive 41 = .ok (.ireturn, 1) := by decide +kernel
theorem dX2_aliveAmongFirst_0 : decode cX2_aliveAmongFirst 0 = .ok (.iconst 0, 1) := by decide +kernel
theorem dX2_aliveAmongFirst_1 : decode cX2_aliveAmongFirst 1 = .ok (.istore_n 2, 1) := by decide +kernel
theorem dX2_aliveAmongFirst_2 : decode cX2_aliveAmongFirst 2 = .ok (.iconst 0, 1) := by decide +kernel
theorem dX2_aliveAmongFirst_3 : decode cX2_aliveAmongFirst 3 = .ok (.istore_n 3, 1) := by decide +kernel
theorem dX2_aliveAmongFirst_4 : decode cX2_aliveAmongFirst 4 = .ok (.iload_n 3, 1) := by decide +kernel
theorem dX2_aliveAmongFirst_5 : decode cX2_aliveAmongFirst 5 = .ok (.iload_n 1, 1) := by decide +kernel
theorem dX2_aliveAmongFirst_6 : decode cX2_aliveAmongFirst 6 = .ok (.if_icmp .ge 28, 3) := by decide +kernel
theorem dX2_aliveAmongFirst_9 : decode cX2_aliveAmongFirst 9 = .ok (.aload_n 0, 1) := by decide +kernel
theorem dX2_aliveAmongFirst_10 : decode cX2_aliveAmongFirst 10 = .ok (.aload_n 0, 1) := by decide +kernel
theorem dX2_aliveAmongFirst_11 : decode cX2_aliveAmongFirst 11 = .ok (.getfield 36, 3) := by decide +kernel
theorem dX2_aliveAmongFirst_14 : decode cX2_aliveAmongFirst 14 = .ok (.getfield 104, 3) := by decide +kernel
theorem dX2_aliveAmongFirst_17 : decode cX2_aliveAmongFirst 17 = .ok (.iload_n 3, 1) := by decide +kernel
theorem dX2_aliveAmongFirst_18 : decode cX2_aliveAmongFirst 18 = .ok (.iaload, 1) := by decide +kernel
theorem dX2_aliveAmongFirst_19 : decode cX2_aliveAmongFirst 19 = .ok (.invokevirtual 109, 3) := by decide +kernel
theorem dX2_aliveAmongFirst_22 : decode cX2_aliveAmongFirst 22 = .ok (.ifCond .eq 6, 3) := by decide +kernel
theorem dX2_aliveAmongFirst_25 : decode cX2_aliveAmongFirst 25 = .ok (.iinc 2 1, 3) := by decide +kernel
theorem dX2_aliveAmongFirst_28 : decode cX2_aliveAmongFirst 28 = .ok (.iinc 3 1, 3) := by decide +kernel
theorem dX2_aliveAmongFirst_31 : decode cX2_aliveAmongFirst 31 = .ok (.goto (-27), 3) := by decide +kernel
theorem dX2_aliveAmongFirst_34 : decode cX2_aliveAmongFirst 34 = .ok (.iload_n 2, 1) := by decide +kernel
theorem dX2_aliveAmongFirst_35 : decode cX2_aliveAmongFirst 35 = .ok (.ireturn, 1) := by decide +kernel
theorem dX2_textLength_0 : decode cX2_textLength 0 = .ok (.aload_n 0, 1) := by decide +kernel
theorem dX2_textLength_1 : decode cX2_textLength 1 = .ok (.aload_n 0, 1) := by decide +kernel
theorem dX2_textLength_2 : decode cX2_textLength 2 = .ok (.getfield 36, 3) := by decide +kernel
theorem dX2_textLength_5 : decode cX2_textLength 5 = .ok (.getfield 112, 3) := by decide +kernel
theorem dX2_textLength_8 : decode cX2_textLength 8 = .ok (.invokevirtual 113, 3) := by decide +kernel
theorem dX2_textLength_11 : decode cX2_textLength 11 = .ok (.ireturn, 1) := by decide +kernel
theorem dX2_hasGap_0 : decode cX2_hasGap 0 = .ok (.iload_n 1, 1) := by decide +kernel
theorem dX2_hasGap_1 : decode cX2_hasGap 1 = .ok (.ifCond .lt 15, 3) := by decide +kernel
theorem dX2_hasGap_4 : decode cX2_hasGap 4 = .ok (.iload_n 1, 1) := by decide +kernel
theorem dX2_hasGap_5 : decode cX2_hasGap 5 = .ok (.aload_n 0, 1) := by decide +kernel
theorem dX2_hasGap_6 : decode cX2_hasGap 6 = .ok (.invokevirtual 117, 3) := by decide +kernel
theorem dX2_hasGap_9 : decode cX2_hasGap 9 = .ok (.if_icmp .gt 7, 3) := by decide +kernel
theorem dX2_hasGap_12 : decode cX2_hasGap 12 = .ok (.iconst 1, 1) := by decide +kernel
theorem dX2_hasGap_13 : decode cX2_hasGap 13 = .ok (.goto 4, 3) := by decide +kernel
theorem dX2_hasGap_16 : decode cX2_hasGap 16 = .ok (.iconst 0, 1) := by decide +kernel
theorem dX2_hasGap_17 : decode cX2_hasGap 17 = .ok (.ireturn, 1) := by decide +kernel
theorem dX2_signAt_0 : decode cX2_signAt 0 = .ok (.iload_n 1, 1) := by decide +kernel
theorem dX2_signAt_1 : decode cX2_signAt 1 = .ok (.istore_n 2, 1) := by decide +kernel
theorem dX2_signAt_2 : decode cX2_signAt 2 = .ok (.iconst 0, 1) := by decide +kernel
theorem dX2_signAt_3 : decode cX2_signAt 3 = .ok (.istore_n 3, 1) := by decide +kernel
theorem dX2_signAt_4 : decode cX2_signAt 4 = .ok (.iload_n 3, 1) := by decide +kernel
theorem dX2_signAt_5 : decode cX2_signAt 5 = .ok (.aload_n 0, 1) := by decide +kernel
theorem dX2_signAt_6 : decode cX2_signAt 6 = .ok (.getfield 36, 3) := by decide +kernel
theorem dX2_signAt_9 : decode cX2_signAt 9 = .ok (.getfield 112, 3) := by decide +kernel
theorem dX2_signAt_12 : decode cX2_signAt 12 = .ok (.if_icmp .ge 46, 3) := by decide +kernel
theorem dX2_signAt_15 : decode cX2_signAt 15 = .ok (.iload_n 2, 1) := by decide +kernel
theorem dX2_signAt_16 : decode cX2_signAt 16 = .ok (.ifCond .lt 42, 3) := by decide +kernel
theorem dX2_signAt_19 : decode cX2_signAt 19 = .ok (.aload_n 0, 1) := by decide +kernel
theorem dX2_signAt_20 : decode cX2_signAt 20 = .ok (.aload_n 0, 1) := by decide +kernel
theorem dX2_signAt_21 : decode cX2_signAt 21 = .ok (.getfield 36, 3) := by decide +kernel
theorem dX2_signAt_24 : decode cX2_signAt 24 = .ok (.getfield 104, 3) := by decide +kernel
theorem dX2_signAt_27 : decode cX2_signAt 27 = .ok (.iload_n 3, 1) := by decide +kernel
theorem dX2_signAt_28 : decode cX2_signAt 28 = .ok (.iaload, 1) := by decide +kernel
theorem dX2_signAt_29 : decode cX2_signAt 29 = .ok (.invokevirtual 109, 3) := by decide +kernel
theorem dX2_signAt_32 : decode cX2_signAt 32 = .ok (.ifCond .eq 20, 3) := by decide +kernel
theorem dX2_signAt_35 : decode cX2_signAt 35 = .ok (.iload_n 2, 1) := by decide +kernel
theorem dX2_signAt_36 : decode cX2_signAt 36 = .ok (.ifCond .ne 13, 3) := by decide +kernel
theorem dX2_signAt_39 : decode cX2_signAt 39 = .ok (.aload_n 0, 1) := by decide +kernel
theorem dX2_signAt_40 : decode cX2_signAt 40 = .ok (.getfield 36, 3) := by decide +kernel
theorem dX2_signAt_43 : decode cX2_signAt 43 = .ok (.getfield 104, 3) := by decide +kernel
theorem dX2_signAt_46 : decode cX2_signAt 46 = .ok (.iload_n 3, 1) := by decide +kernel
theorem dX2_signAt_47 : decode cX2_signAt 47 = .ok (.iaload, 1) := by decide +kernel
theorem dX2_signAt_48 : decode cX2_signAt 48 = .ok (.ireturn, 1) := by decide +kernel
theorem dX2_signAt_49 : decode cX2_signAt 49 = .ok (.iinc 2 (-1), 3) := by decide +kernel
theorem dX2_signAt_52 : decode cX2_signAt 52 = .ok (.iinc 3 1, 3) := by decide +kernel
theorem dX2_signAt_55 : decode cX2_signAt 55 = .ok (.goto (-51), 3) := by decide +kernel
theorem dX2_signAt_58 : decode cX2_signAt 58 = .ok (.iconst (-1), 1) := by decide +kernel
theorem dX2_signAt_59 : decode cX2_signAt 59 = .ok (.ireturn, 1) := by decide +kernel
theorem dX2_signBefore_0 : decode cX2_signBefore 0 = .ok (.iload_n 1, 1) := by decide +kernel
theorem dX2_signBefore_1 : decode cX2_signBefore 1 = .ok (.ifCond .gt 7, 3) := by decide +kernel
theorem dX2_signBefore_4 : decode cX2_signBefore 4 = .ok (.iconst (-1), 1) := by decide +kernel
theorem dX2_signBefore_5 : decode cX2_signBefore 5 = .ok (.goto 10, 3) := by decide +kernel
theorem dX2_signBefore_8 : decode cX2_signBefore 8 = .ok (.aload_n 0, 1) := by decide +kernel
theorem dX2_signBefore_9 : decode cX2_signBefore 9 = .ok (.iload_n 1, 1) := by decide +kernel
theorem dX2_signBefore_10 : decode cX2_signBefore 10 = .ok (.iconst 1, 1) := by decide +kernel
theorem dX2_signBefore_11 : decode cX2_signBefore 11 = .ok (.isub, 1) := by decide +kernel
theorem dX2_signBefore_12 : decode cX2_signBefore 12 = .ok (.invokevirtual 120, 3) := by decide +kernel
theorem dX2_signBefore_15 : decode cX2_signBefore 15 = .ok (.ireturn, 1) := by decide +kernel
theorem dX2_nextBehind_0 : decode cX2_nextBehind 0 = .ok (.iload_n 1, 1) := by decide +kernel
theorem dX2_nextBehind_1 : decode cX2_nextBehind 1 = .ok (.iconst (-1), 1) := by decide +kernel
theorem dX2_nextBehind_2 : decode cX2_nextBehind 2 = .ok (.if_icmp .ne 7, 3) := by decide +kernel
theorem dX2_nextBehind_5 : decode cX2_nextBehind 5 = .ok (.iconst 0, 1) := by decide +kernel
theorem dX2_nextBehind_6 : decode cX2_nextBehind 6 = .ok (.goto 14, 3) := by decide +kernel
theorem dX2_nextBehind_9 : decode cX2_nextBehind 9 = .ok (.aload_n 0, 1) := by decide +kernel
theorem dX2_nextBehind_10 : decode cX2_nextBehind 10 = .ok (.getfield 36, 3) := by decide +kernel
theorem dX2_nextBehind_13 : decode cX2_nextBehind 13 = .ok (.getfield 123, 3) := by decide +kernel
theorem dX2_nextBehind_16 : decode cX2_nextBehind 16 = .ok (.iload_n 1, 1) := by decide +kernel
theorem dX2_nextBehind_17 : decode cX2_nextBehind 17 = .ok (.iaload, 1) := by decide +kernel
theorem dX2_nextBehind_18 : decode cX2_nextBehind 18 = .ok (.iconst 1, 1) := by decide +kernel
theorem dX2_nextBehind_19 : decode cX2_nextBehind 19 = .ok (.iadd, 1) := by decide +kernel
theorem dX2_nextBehind_20 : decode cX2_nextBehind 20 = .ok (.istore_n 2, 1) := by decide +kernel
theorem dX2_nextBehind_21 : decode cX2_nextBehind 21 = .ok (.iload_n 2, 1) := by decide +kernel
theorem dX2_nextBehind_22 : decode cX2_nextBehind 22 = .ok (.aload_n 0, 1) := by decide +kernel
theorem dX2_nextBehind_23 : decode cX2_nextBehind 23 = .ok (.getfield 36, 3) := by decide +kernel
theorem dX2_nextBehind_26 : decode cX2_nextBehind 26 = .ok (.getfield 112, 3) := by decide +kernel
theorem dX2_nextBehind_29 : decode cX2_nextBehind 29 = .ok (.if_icmp .ge 35, 3) := by decide +kernel
theorem dX2_nextBehind_32 : decode cX2_nextBehind 32 = .ok (.aload_n 0, 1) := by decide +kernel
theorem dX2_nextBehind_33 : decode cX2_nextBehind 33 = .ok (.aload_n 0, 1) := by decide +kernel
theorem dX2_nextBehind_34 : decode cX2_nextBehind 34 = .ok (.getfield 36, 3) := by decide +kernel
theorem dX2_nextBehind_37 : decode cX2_nextBehind 37 = .ok (.getfield 104, 3) := by decide +kernel
theorem dX2_nextBehind_40 : decode cX2_nextBehind 40 = .ok (.iload_n 2, 1) := by decide +kernel
theorem dX2_nextBehind_41 : decode cX2_nextBehind 41 = .ok (.iaload, 1) := by decide +kernel
theorem dX2_nextBehind_42 : decode cX2_nextBehind 42 = .ok (.invokevirtual 59, 3) := by decide +kernel
theorem dX2_nextBehind_45 : decode cX2_nextBehind 45 = .ok (.ifCond .eq 13, 3) := by decide +kernel
theorem dX2_nextBehind_48 : decode cX2_nextBehind 48 = .ok (.aload_n 0, 1) := by decide +kernel
theorem dX2_nextBehind_49 : decode cX2_nextBehind 49 = .ok (.getfield 36, 3) := by decide +kernel
theorem dX2_nextBehind_52 : decode cX2_nextBehind 52 = .ok (.getfield 104, 3) := by decide +kernel
theorem dX2_nextBehind_55 : decode cX2_nextBehind 55 = .ok (.iload_n 2, 1) := by decide +kernel
theorem dX2_nextBehind_56 : decode cX2_nextBehind 56 = .ok (.iaload, 1) := by decide +kernel
theorem dX2_nextBehind_57 : decode cX2_nextBehind 57 = .ok (.ireturn, 1) := by decide +kernel
theorem dX2_nextBehind_58 : decode cX2_nextBehind 58 = .ok (.iinc 2 1, 3) := by decide +kernel
theorem dX2_nextBehind_61 : decode cX2_nextBehind 61 = .ok (.goto (-40), 3) := by decide +kernel
theorem dX2_nextBehind_64 : decode cX2_nextBehind 64 = .ok (.iconst (-1), 1) := by decide +kernel
theorem dX2_nextBehind_65 : decode cX2_nextBehind 65 = .ok (.ireturn, 1) := by decide +kernel
theorem dX2_cursorPlace_0 : decode cX2_cursorPlace 0 = .ok (.aload_n 0, 1) := by decide +kernel
theorem dX2_cursorPlace_1 : decode cX2_cursorPlace 1 = .ok (.getfield 22, 3) := by decide +kernel
theorem dX2_cursorPlace_4 : decode cX2_cursorPlace 4 = .ok (.iload_n 1, 1) := by decide +kernel
theorem dX2_cursorPlace_5 : decode cX2_cursorPlace 5 = .ok (.iaload, 1) := by decide +kernel
theorem dX2_cursorPlace_6 : decode cX2_cursorPlace 6 = .ok (.istore_n 2, 1) := by decide +kernel
theorem dX2_cursorPlace_7 : decode cX2_cursorPlace 7 = .ok (.iload_n 2, 1) := by decide +kernel
theorem dX2_cursorPlace_8 : decode cX2_cursorPlace 8 = .ok (.iconst (-1), 1) := by decide +kernel
theorem dX2_cursorPlace_9 : decode cX2_cursorPlace 9 = .ok (.if_icmp .ne 7, 3) := by decide +kernel
theorem dX2_cursorPlace_12 : decode cX2_cursorPlace 12 = .ok (.iconst 0, 1) := by decide +kernel
theorem dX2_cursorPlace_13 : decode cX2_cursorPlace 13 = .ok (.goto 18, 3) := by decide +kernel
theorem dX2_cursorPlace_16 : decode cX2_cursorPlace 16 = .ok (.aload_n 0, 1) := by decide +kernel
theorem dX2_cursorPlace_17 : decode cX2_cursorPlace 17 = .ok (.aload_n 0, 1) := by decide +kernel
theorem dX2_cursorPlace_18 : decode cX2_cursorPlace 18 = .ok (.getfield 36, 3) := by decide +kernel
theorem dX2_cursorPlace_21 : decode cX2_cursorPlace 21 = .ok (.getfield 123, 3) := by decide +kernel
theorem dX2_cursorPlace_24 : decode cX2_cursorPlace 24 = .ok (.iload_n 2, 1) := by decide +kernel
theorem dX2_cursorPlace_25 : decode cX2_cursorPlace 25 = .ok (.iaload, 1) := by decide +kernel
theorem dX2_cursorPlace_26 : decode cX2_cursorPlace 26 = .ok (.iconst 1, 1) := by decide +kernel
theorem dX2_cursorPlace_27 : decode cX2_cursorPlace 27 = .ok (.iadd, 1) := by decide +kernel
theorem dX2_cursorPlace_28 : decode cX2_cursorPlace 28 = .ok (.invokevirtual 113, 3) := by decide +kernel
theorem dX2_cursorPlace_31 : decode cX2_cursorPlace 31 = .ok (.ireturn, 1) := by decide +kernel
theorem dX2_kindsOf_0 : decode cX2_kindsOf 0 = .ok (.iconst 0, 1) := by decide +kernel
theorem dX2_kindsOf_1 : decode cX2_kindsOf 1 = .ok (.istore_n 2, 1) := by decide +kernel
theorem dX2_kindsOf_2 : decode cX2_kindsOf 2 = .ok (.iload_n 2, 1) := by decide +kernel
theorem dX2_kindsOf_3 : decode cX2_kindsOf 3 = .ok (.bipush 8, 2) := by decide +kernel
theorem dX2_kindsOf_5 : decode cX2_kindsOf 5 = .ok (.if_icmp .ge 16, 3) := by decide +kernel
theorem dX2_kindsOf_8 : decode cX2_kindsOf 8 = .ok (.aload_n 0, 1) := by decide +kernel
theorem dX2_kindsOf_9 : decode cX2_kindsOf 9 = .ok (.getfield 25, 3) := by decide +kernel
theorem dX2_kindsOf_12 : decode cX2_kindsOf 12 = .ok (.iload_n 2, 1) := by decide +kernel
theorem dX2_kindsOf_13 : decode cX2_kindsOf 13 = .ok (.iconst (-1), 1) := by decide +kernel
theorem dX2_kindsOf_14 : decode cX2_kindsOf 14 = .ok (.iastore, 1) := by decide +kernel
theorem dX2_kindsOf_15 : decode cX2_kindsOf 15 = .ok (.iinc 2 1, 3) := by decide +kernel
theorem dX2_kindsOf_18 : decode cX2_kindsOf 18 = .ok (.goto (-16), 3) := by decide +kernel
theorem dX2_kindsOf_21 : decode cX2_kindsOf 21 = .ok (.iconst 0, 1) := by decide +kernel
theorem dX2_kindsOf_22 : decode cX2_kindsOf 22 = .ok (.istore_n 2, 1) := by decide +kernel
theorem dX2_kindsOf_23 : decode cX2_kindsOf 23 = .ok (.iload_n 2, 1) := by decide +kernel
theorem dX2_kindsOf_24 : decode cX2_kindsOf 24 = .ok (.aload_n 0, 1) := by decide +kernel
theorem dX2_kindsOf_25 : decode cX2_kindsOf 25 = .ok (.getfield 32, 3) := by decide +kernel
theorem dX2_kindsOf_28 : decode cX2_kindsOf 28 = .ok (.getfield 126, 3) := by decide +kernel
theorem dX2_kindsOf_31 : decode cX2_kindsOf 31 = .ok (.if_icmp .ge 79, 3) := by decide +kernel
theorem dX2_kindsOf_34 : decode cX2_kindsOf 34 = .ok (.aload_n 0, 1) := by decide +kernel
theorem dX2_kindsOf_35 : decode cX2_kindsOf 35 = .ok (.getfield 32, 3) := by decide +kernel
theorem dX2_kindsOf_38 : decode cX2_kindsOf 38 = .ok (.getfield 129, 3) := by decide +kernel
theorem dX2_kindsOf_41 : decode cX2_kindsOf 41 = .ok (.iload_n 2, 1) := by decide +kernel
theorem dX2_kindsOf_42 : decode cX2_kindsOf 42 = .ok (.iaload, 1) := by decide +kernel
theorem dX2_kindsOf_43 : decode cX2_kindsOf 43 = .ok (.istore_n 3, 1) := by decide +kernel
theorem dX2_kindsOf_44 : decode cX2_kindsOf 44 = .ok (.aload_n 0, 1) := by decide +kernel
theorem dX2_kindsOf_45 : decode cX2_kindsOf 45 = .ok (.getfield 32, 3) := by decide +kernel
theorem dX2_kindsOf_48 : decode cX2_kindsOf 48 = .ok (.getfield 132, 3) := by decide +kernel
theorem dX2_kindsOf_51 : decode cX2_kindsOf 51 = .ok (.iload_n 3, 1) := by decide +kernel
theorem dX2_kindsOf_52 : decode cX2_kindsOf 52 = .ok (.iaload, 1) := by decide +kernel
theorem dX2_kindsOf_53 : decode cX2_kindsOf 53 = .ok (.bipush 8, 2) := by decide +kernel
theorem dX2_kindsOf_55 : decode cX2_kindsOf 55 = .ok (.irem, 1) := by decide +kernel
theorem dX2_kindsOf_56 : decode cX2_kindsOf 56 = .ok (.istore 4, 2) := by decide +kernel
theorem dX2_kindsOf_58 : decode cX2_kindsOf 58 = .ok (.aload_n 0, 1) := by decide +kernel
theorem dX2_kindsOf_59 : decode cX2_kindsOf 59 = .ok (.iload_n 1, 1) := by decide +kernel
theorem dX2_kindsOf_60 : decode cX2_kindsOf 60 = .ok (.iload_n 3, 1) := by decide +kernel
theorem dX2_kindsOf_61 : decode cX2_kindsOf 61 = .ok (.invokevirtual 135, 3) := by decide +kernel
theorem dX2_kindsOf_64 : decode cX2_kindsOf 64 = .ok (.ifCond .eq 40, 3) := by decide +kernel
theorem dX2_kindsOf_67 : decode cX2_kindsOf 67 = .ok (.aload_n 0, 1) := by decide +kernel
theorem dX2_kindsOf_68 : decode cX2_kindsOf 68 = .ok (.getfield 25, 3) := by decide +kernel
theorem dX2_kindsOf_71 : decode cX2_kindsOf 71 = .ok (.iload 4, 2) := by decide +kernel
theorem dX2_kindsOf_73 : decode cX2_kindsOf 73 = .ok (.iaload, 1) := by decide +kernel
theorem dX2_kindsOf_74 : decode cX2_kindsOf 74 = .ok (.iconst (-1), 1) := by decide +kernel
theorem dX2_kindsOf_75 : decode cX2_kindsOf 75 = .ok (.if_icmp .eq 21, 3) := by decide +kernel
theorem dX2_kindsOf_78 : decode cX2_kindsOf 78 = .ok (.aload_n 0, 1) := by decide +kernel
theorem dX2_kindsOf_79 : decode cX2_kindsOf 79 = .ok (.getfield 32, 3) := by decide +kernel
theorem dX2_kindsOf_82 : decode cX2_kindsOf 82 = .ok (.iload_n 3, 1) := by decide +kernel
theorem dX2_kindsOf_83 : decode cX2_kindsOf 83 = .ok (.aload_n 0, 1) := by decide +kernel
theorem dX2_kindsOf_84 : decode cX2_kindsOf 84 = .ok (.getfield 25, 3) := by decide +kernel
theorem dX2_kindsOf_87 : decode cX2_kindsOf 87 = .ok (.iload 4, 2) := by decide +kernel
theorem dX2_kindsOf_89 : decode cX2_kindsOf 89 = .ok (.iaload, 1) := by decide +kernel
theorem dX2_kindsOf_90 : decode cX2_kindsOf 90 = .ok (.invokevirtual 100, 3) := by decide +kernel
theorem dX2_kindsOf_93 : decode cX2_kindsOf 93 = .ok (.ifCond .eq 11, 3) := by decide +kernel
theorem dX2_kindsOf_96 : decode cX2_kindsOf 96 = .ok (.aload_n 0, 1) := by decide +kernel
theorem dX2_kindsOf_97 : decode cX2_kindsOf 97 = .ok (.getfield 25, 3) := by decide +kernel
theorem dX2_kindsOf_100 : decode cX2_kindsOf 100 = .ok (.iload 4, 2) := by decide +kernel
theorem dX2_kindsOf_102 : decode cX2_kindsOf 102 = .ok (.iload_n 3, 1) := by decide +kernel
theorem dX2_kindsOf_103 : decode cX2_kindsOf 103 = .ok (.iastore, 1) := by decide +kernel
theorem dX2_kindsOf_104 : decode cX2_kindsOf 104 = .ok (.iinc 2 1, 3) := by decide +kernel
theorem dX2_kindsOf_107 : decode cX2_kindsOf 107 = .ok (.goto (-84), 3) := by decide +kernel
theorem dX2_kindsOf_110 : decode cX2_kindsOf 110 = .ok (.aload_n 0, 1) := by decide +kernel
theorem dX2_kindsOf_111 : decode cX2_kindsOf 111 = .ok (.invokevirtual 138, 3) := by decide +kernel
theorem dX2_kindsOf_114 : decode cX2_kindsOf 114 = .ok (.ireturn, 1) := by decide +kernel
theorem dX2_isMarkedBy_0 : decode cX2_isMarkedBy 0 = .ok (.aload_n 0, 1) := by decide +kernel
theorem dX2_isMarkedBy_1 : decode cX2_isMarkedBy 1 = .ok (.getfield 36, 3) := by decide +kernel
theorem dX2_isMarkedBy_4 : decode cX2_isMarkedBy 4 = .ok (.getfield 123, 3) := by decide +kernel
theorem dX2_isMarkedBy_7 : decode cX2_isMarkedBy 7 = .ok (.iload_n 1, 1) := by decide +kernel
theorem dX2_isMarkedBy_8 : decode cX2_isMarkedBy 8 = .ok (.iaload, 1) := by decide +kernel
theorem dX2_isMarkedBy_9 : decode cX2_isMarkedBy 9 = .ok (.istore_n 3, 1) := by decide +kernel
theorem dX2_isMarkedBy_10 : decode cX2_isMarkedBy 10 = .ok (.aload_n 0, 1) := by decide +kernel
theorem dX2_isMarkedBy_11 : decode cX2_isMarkedBy 11 = .ok (.iload_n 2, 1) := by decide +kernel
theorem dX2_isMarkedBy_12 : decode cX2_isMarkedBy 12 = .ok (.invokevirtual 59, 3) := by decide +kernel
theorem dX2_isMarkedBy_15 : decode cX2_isMarkedBy 15 = .ok (.ifCond .eq 49, 3) := by decide +kernel
theorem dX2_isMarkedBy_18 : decode cX2_isMarkedBy 18 = .ok (.aload_n 0, 1) := by decide +kernel
theorem dX2_isMarkedBy_19 : decode cX2_isMarkedBy 19 = .ok (.getfield 36, 3) := by decide +kernel
theorem dX2_isMarkedBy_22 : decode cX2_isMarkedBy 22 = .ok (.getfield 123, 3) := by decide +kernel
theorem dX2_isMarkedBy_25 : decode cX2_isMarkedBy 25 = .ok (.aload_n 0, 1) := by decide +kernel
theorem dX2_isMarkedBy_26 : decode cX2_isMarkedBy 26 = .ok (.getfield 32, 3) := by decide +kernel
theorem dX2_isMarkedBy_29 : decode cX2_isMarkedBy 29 = .ok (.getfield 56, 3) := by decide +kernel
theorem dX2_isMarkedBy_32 : decode cX2_isMarkedBy 32 = .ok (.iload_n 2, 1) := by decide +kernel
theorem dX2_isMarkedBy_33 : decode cX2_isMarkedBy 33 = .ok (.iaload, 1) := by decide +kernel
theorem dX2_isMarkedBy_34 : decode cX2_isMarkedBy 34 = .ok (.iaload, 1) := by decide +kernel
theorem dX2_isMarkedBy_35 : decode cX2_isMarkedBy 35 = .ok (.iload_n 3, 1) := by decide +kernel
theorem dX2_isMarkedBy_36 : decode cX2_isMarkedBy 36 = .ok (.if_icmp .gt 28, 3) := by decide +kernel
theorem dX2_isMarkedBy_39 : decode cX2_isMarkedBy 39 = .ok (.iload_n 3, 1) := by decide +kernel
theorem dX2_isMarkedBy_40 : decode cX2_isMarkedBy 40 = .ok (.aload_n 0, 1) := by decide +kernel
theorem dX2_isMarkedBy_41 : decode cX2_isMarkedBy 41 = .ok (.getfield 36, 3) := by decide +kernel
theorem dX2_isMarkedBy_44 : decode cX2_isMarkedBy 44 = .ok (.getfield 123, 3) := by decide +kernel
theorem dX2_isMarkedBy_47 : decode cX2_isMarkedBy 47 = .ok (.aload_n 0, 1) := by decide +kernel
theorem dX2_isMarkedBy_48 : decode cX2_isMarkedBy 48 = .ok (.getfield 32, 3) := by decide +kernel
theorem dX2_isMarkedBy_51 : decode cX2_isMarkedBy 51 = .ok (.getfield 63, 3) := by decide +kernel
theorem dX2_isMarkedBy_54 : decode cX2_isMarkedBy 54 = .ok (.iload_n 2, 1) := by decide +kernel
theorem dX2_isMarkedBy_55 : decode cX2_isMarkedBy 55 = .ok (.iaload, 1) := by decide +kernel
theorem dX2_isMarkedBy_56 : decode cX2_isMarkedBy 56 = .ok (.iaload, 1) := by decide +kernel
theorem dX2_isMarkedBy_57 : decode cX2_isMarkedBy 57 = .ok (.if_icmp .gt 7, 3) := by decide +kernel
theorem dX2_isMarkedBy_60 : decode cX2_isMarkedBy 60 = .ok (.iconst 1, 1) := by decide +kernel
theorem dX2_isMarkedBy_61 : decode cX2_isMarkedBy 61 = .ok (.goto 4, 3) := by decide +kernel
theorem dX2_isMarkedBy_64 : decode cX2_isMarkedBy 64 = .ok (.iconst 0, 1) := by decide +kernel
theorem dX2_isMarkedBy_65 : decode cX2_isMarkedBy 65 = .ok (.ireturn, 1) := by decide +kernel
theorem dX2_bitsOfLatest_0 : decode cX2_bitsOfLatest 0 = .ok (.iconst 0, 1) := by decide +kernel
theorem dX2_bitsOfLatest_1 : decode cX2_bitsOfLatest 1 = .ok (.istore_n 1, 1) := by decide +kernel
theorem dX2_bitsOfLatest_2 : decode cX2_bitsOfLatest 2 = .ok (.iconst 0, 1) := by decide +kernel
theorem dX2_bitsOfLatest_3 : decode cX2_bitsOfLatest 3 = .ok (.istore_n 2, 1) := by decide +kernel
theorem dX2_bitsOfLatest_4 : decode cX2_bitsOfLatest 4 = .ok (.iload_n 2, 1) := by decide +kernel
theorem dX2_bitsOfLatest_5 : decode cX2_bitsOfLatest 5 = .ok (.bipush 8, 2) := by decide +kernel
theorem dX2_bitsOfLatest_7 : decode cX2_bitsOfLatest 7 = .ok (.if_icmp .ge 41, 3) := by decide +kernel
theorem dX2_bitsOfLatest_10 : decode cX2_bitsOfLatest 10 = .ok (.aload_n 0, 1) := by decide +kernel
theorem dX2_bitsOfLatest_11 : decode cX2_bitsOfLatest 11 = .ok (.getfield 25, 3) := by decide +kernel
theorem dX2_bitsOfLatest_14 : decode cX2_bitsOfLatest 14 = .ok (.iload_n 2, 1) := by decide +kernel
theorem dX2_bitsOfLatest_15 : decode cX2_bitsOfLatest 15 = .ok (.iaload, 1) := by decide +kernel
theorem dX2_bitsOfLatest_16 : decode cX2_bitsOfLatest 16 = .ok (.istore_n 3, 1) := by decide +kernel
theorem dX2_bitsOfLatest_17 : decode cX2_bitsOfLatest 17 = .ok (.iload_n 3, 1) := by decide +kernel
theorem dX2_bitsOfLatest_18 : decode cX2_bitsOfLatest 18 = .ok (.iconst (-1), 1) := by decide +kernel
theorem dX2_bitsOfLatest_19 : decode cX2_bitsOfLatest 19 = .ok (.if_icmp .eq 23, 3) := by decide +kernel
theorem dX2_bitsOfLatest_22 : decode cX2_bitsOfLatest 22 = .ok (.aload_n 0, 1) := by decide +kernel
theorem dX2_bitsOfLatest_23 : decode cX2_bitsOfLatest 23 = .ok (.getfield 32, 3) := by decide +kernel
theorem dX2_bitsOfLatest_26 : decode cX2_bitsOfLatest 26 = .ok (.getfield 132, 3) := by decide +kernel
theorem dX2_bitsOfLatest_29 : decode cX2_bitsOfLatest 29 = .ok (.iload_n 3, 1) := by decide +kernel
theorem dX2_bitsOfLatest_30 : decode cX2_bitsOfLatest 30 = .ok (.iaload, 1) := by decide +kernel
theorem dX2_bitsOfLatest_31 : decode cX2_bitsOfLatest 31 = .ok (.bipush 8, 2) := by decide +kernel
theorem dX2_bitsOfLatest_33 : decode cX2_bitsOfLatest 33 = .ok (.if_icmp .lt 9, 3) := by decide +kernel
theorem dX2_bitsOfLatest_36 : decode cX2_bitsOfLatest 36 = .ok (.iload_n 1, 1) := by decide +kernel
theorem dX2_bitsOfLatest_37 : decode cX2_bitsOfLatest 37 = .ok (.iconst 1, 1) := by decide +kernel
theorem dX2_bitsOfLatest_38 : decode cX2_bitsOfLatest 38 = .ok (.iload_n 2, 1) := by decide +kernel
theorem dX2_bitsOfLatest_39 : decode cX2_bitsOfLatest 39 = .ok (.ishl, 1) := by decide +kernel
theorem dX2_bitsOfLatest_40 : decode cX2_bitsOfLatest 40 = .ok (.ior, 1) := by decide +kernel
theorem dX2_bitsOfLatest_41 : decode cX2_bitsOfLatest 41 = .ok (.istore_n 1, 1) := by decide +kernel
theorem dX2_bitsOfLatest_42 : decode cX2_bitsOfLatest 42 = .ok (.iinc 2 1, 3) := by decide +kernel
theorem dX2_bitsOfLatest_45 : decode cX2_bitsOfLatest 45 = .ok (.goto (-41), 3) := by decide +kernel
theorem dX2_bitsOfLatest_48 : decode cX2_bitsOfLatest 48 = .ok (.iload_n 1, 1) := by decide +kernel
theorem dX2_bitsOfLatest_49 : decode cX2_bitsOfLatest 49 = .ok (.ireturn, 1) := by decide +kernel
theorem dX3_init_0 : decode cX3_init 0 = .ok (.aload_n 0, 1) := by decide +kernel
theorem dX3_init_1 : decode cX3_init 1 = .ok (.invokespecial 3, 3) := by decide +kernel
theorem dX3_init_4 : decode cX3_init 4 = .ok (.aload_n 0, 1) := by decide +kernel
theorem dX3_init_5 : decode cX3_init 5 = .ok (.sipush 300, 3) := by decide +kernel
theorem dX3_init_8 : decode cX3_init 8 = .ok (.newarray .int, 2) := by decide +kernel
theorem dX3_init_10 : decode cX3_init 10 = .ok (.putfield 9, 3) := by decide +kernel
theorem dX3_init_13 : decode cX3_init 13 = .ok (.aload_n 0, 1) := by decide +kernel
theorem dX3_init_14 : decode cX3_init 14 = .ok (.sipush 300, 3) := by decide +kernel
theorem dX3_init_17 : decode cX3_init 17 = .ok (.newarray .int, 2) := by decide +kernel
theorem dX3_init_19 : decode cX3_init 19 = .ok (.putfield 15, 3) := by decide +kernel
theorem dX3_init_22 : decode cX3_init 22 = .ok (.return_, 1) := by decide +kernel
theorem dX3_holds_0 : decode cX3_holds 0 = .ok (.iload_n 1, 1) := by decide +kernel
theorem dX3_holds_1 : decode cX3_holds 1 = .ok (.ifCond .lt 15, 3) := by decide +kernel
theorem dX3_holds_4 : decode cX3_holds 4 = .ok (.iload_n 1, 1) := by decide +kernel
theorem dX3_holds_5 : decode cX3_holds 5 = .ok (.aload_n 0, 1) := by decide +kernel
theorem dX3_holds_6 : decode cX3_holds 6 = .ok (.getfield 18, 3) := by decide +kernel
theorem dX3_holds_9 : decode cX3_holds 9 = .ok (.if_icmp .ge 7, 3) := by decide +kernel
theorem dX3_holds_12 : decode cX3_holds 12 = .ok (.iconst 1, 1) := by decide +kernel
theorem dX3_holds_13 : decode cX3_holds 13 = .ok (.goto 4, 3) := by decide +kernel
theorem dX3_holds_16 : decode cX3_holds 16 = .ok (.iconst 0, 1) := by decide +kernel
theorem dX3_holds_17 : decode cX3_holds 17 = .ok (.ireturn, 1) := by decide +kernel
theorem dX3_isFull_0 : decode cX3_isFull 0 = .ok (.aload_n 0, 1) := by decide +kernel
theorem dX3_isFull_1 : decode cX3_isFull 1 = .ok (.getfield 18, 3) := by decide +kernel
theorem dX3_isFull_4 : decode cX3_isFull 4 = .ok (.sipush 300, 3) := by decide +kernel
theorem dX3_isFull_7 : decode cX3_isFull 7 = .ok (.if_icmp .lt 7, 3) := by decide +kernel
theorem dX3_isFull_10 : decode cX3_isFull 10 = .ok (.iconst 1, 1) := by decide +kernel
theorem dX3_isFull_11 : decode cX3_isFull 11 = .ok (.goto 4, 3) := by decide +kernel
theorem dX3_isFull_14 : decode cX3_isFull 14 = .ok (.iconst 0, 1) := by decide +kernel
theorem dX3_isFull_15 : decode cX3_isFull 15 = .ok (.ireturn, 1) := by decide +kernel
theorem dX3_send_0 : decode cX3_send 0 = .ok (.aload_n 0, 1) := by decide +kernel
theorem dX3_send_1 : decode cX3_send 1 = .ok (.invokevirtual 22, 3) := by decide +kernel
theorem dX3_send_4 : decode cX3_send 4 = .ok (.ifCond .eq 14, 3) := by decide +kernel
theorem dX3_send_7 : decode cX3_send 7 = .ok (.aload_n 0, 1) := by decide +kernel
theorem dX3_send_8 : decode cX3_send 8 = .ok (.dup, 1) := by decide +kernel
theorem dX3_send_9 : decode cX3_send 9 = .ok (.getfield 26, 3) := by decide +kernel
theorem dX3_send_12 : decode cX3_send 12 = .ok (.iconst 1, 1) := by decide +kernel
theorem dX3_send_13 : decode cX3_send 13 = .ok (.iadd, 1) := by decide +kernel
theorem dX3_send_14 : decode cX3_send 14 = .ok (.putfield 26, 3) := by decide +kernel
theorem dX3_send_17 : decode cX3_send 17 = .ok (.return_, 1) := by decide +kernel
theorem dX3_send_18 : decode cX3_send 18 = .ok (.aload_n 0, 1) := by decide +kernel
theorem dX3_send_19 : decode cX3_send 19 = .ok (.getfield 9, 3) := by decide +kernel
theorem dX3_send_22 : decode cX3_send 22 = .ok (.aload_n 0, 1) := by decide +kernel
theorem dX3_send_23 : decode cX3_send 23 = .ok (.getfield 18, 3) := by decide +kernel
theorem dX3_send_26 : decode cX3_send 26 = .ok (.iload_n 1, 1) := by decide +kernel
theorem dX3_send_27 : decode cX3_send 27 = .ok (.iastore, 1) := by decide +kernel
theorem dX3_send_28 : decode cX3_send 28 = .ok (.aload_n 0, 1) := by decide +kernel
theorem dX3_send_29 : decode cX3_send 29 = .ok (.getfield 15, 3) := by decide +kernel
theorem dX3_send_32 : decode cX3_send 32 = .ok (.aload_n 0, 1) := by decide +kernel
theorem dX3_send_33 : decode cX3_send 33 = .ok (.getfield 18, 3) := by decide +kernel
theorem dX3_send_36 : decode cX3_send 36 = .ok (.iload_n 2, 1) := by decide +kernel
theorem dX3_send_37 : decode cX3_send 37 = .ok (.iastore, 1) := by decide +kernel
theorem dX3_send_38 : decode cX3_send 38 = .ok (.aload_n 0, 1) := by decide +kernel
theorem dX3_send_39 : decode cX3_send 39 = .ok (.dup, 1) := by decide +kernel
theorem dX3_send_40 : decode cX3_send 40 = .ok (.getfield 18, 3) := by decide +kernel
theorem dX3_send_43 : decode cX3_send 43 = .ok (.iconst 1, 1) := by decide +kernel
theorem dX3_send_44 : decode cX3_send 44 = .ok (.iadd, 1) := by decide +kernel
theorem dX3_send_45 : decode cX3_send 45 = .ok (.putfield 18, 3) := by decide +kernel
theorem dX3_send_48 : decode cX3_send 48 = .ok (.return_, 1) := by decide +kernel
theorem dX3_drop_0 : decode cX3_drop 0 = .ok (.aload_n 0, 1) := by decide +kernel
theorem dX3_drop_1 : decode cX3_drop 1 = .ok (.dup, 1) := by decide +kernel
theorem dX3_drop_2 : decode cX3_drop 2 = .ok (.getfield 18, 3) := by decide +kernel
theorem dX3_drop_5 : decode cX3_drop 5 = .ok (.iconst 1, 1) := by decide +kernel
theorem dX3_drop_6 : decode cX3_drop 6 = .ok (.isub, 1) := by decide +kernel
theorem dX3_drop_7 : decode cX3_drop 7 = .ok (.putfield 18, 3) := by decide +kernel
theorem dX3_drop_10 : decode cX3_drop 10 = .ok (.iload_n 1, 1) := by decide +kernel
theorem dX3_drop_11 : decode cX3_drop 11 = .ok (.istore_n 2, 1) := by decide +kernel
theorem dX3_drop_12 : decode cX3_drop 12 = .ok (.iload_n 2, 1) := by decide +kernel
theorem dX3_drop_13 : decode cX3_drop 13 = .ok (.aload_n 0, 1) := by decide +kernel
theorem dX3_drop_14 : decode cX3_drop 14 = .ok (.getfield 18, 3) := by decide +kernel
theorem dX3_drop_17 : decode cX3_drop 17 = .ok (.if_icmp .ge 37, 3) := by decide +kernel
theorem dX3_drop_20 : decode cX3_drop 20 = .ok (.aload_n 0, 1) := by decide +kernel
theorem dX3_drop_21 : decode cX3_drop 21 = .ok (.getfield 9, 3) := by decide +kernel
theorem dX3_drop_24 : decode cX3_drop 24 = .ok (.iload_n 2, 1) := by decide +kernel
theorem dX3_drop_25 : decode cX3_drop 25 = .ok (.aload_n 0, 1) := by decide +kernel
theorem dX3_drop_26 : decode cX3_drop 26 = .ok (.getfield 9, 3) := by decide +kernel
theorem dX3_drop_29 : decode cX3_drop 29 = .ok (.iload_n 2, 1) := by decide +kernel
theorem dX3_drop_30 : decode cX3_drop 30 = .ok (.iconst 1, 1) := by decide +kernel
theorem dX3_drop_31 : decode cX3_drop 31 = .ok (.iadd, 1) := by decide +kernel
theorem dX3_drop_32 : decode cX3_drop 32 = .ok (.iaload, 1) := by decide +kernel
theorem dX3_drop_33 : decode cX3_drop 33 = .ok (.iastore, 1) := by decide +kernel
theorem dX3_drop_34 : decode cX3_drop 34 = .ok (.aload_n 0, 1) := by decide +kernel
theorem dX3_drop_35 : decode cX3_drop 35 = .ok (.getfield 15, 3) := by decide +kernel
theorem dX3_drop_38 : decode cX3_drop 38 = .ok (.iload_n 2, 1) := by decide +kernel
theorem dX3_drop_39 : decode cX3_drop 39 = .ok (.aload_n 0, 1) := by decide +kernel
theorem dX3_drop_40 : decode cX3_drop 40 = .ok (.getfield 15, 3) := by decide +kernel
theorem dX3_drop_43 : decode cX3_drop 43 = .ok (.iload_n 2, 1) := by decide +kernel
theorem dX3_drop_44 : decode cX3_drop 44 = .ok (.iconst 1, 1) := by decide +kernel
theorem dX3_drop_45 : decode cX3_drop 45 = .ok (.iadd, 1) := by decide +kernel
theorem dX3_drop_46 : decode cX3_drop 46 = .ok (.iaload, 1) := by decide +kernel
theorem dX3_drop_47 : decode cX3_drop 47 = .ok (.iastore, 1) := by decide +kernel
theorem dX3_drop_48 : decode cX3_drop 48 = .ok (.iinc 2 1, 3) := by decide +kernel
theorem dX3_drop_51 : decode cX3_drop 51 = .ok (.goto (-39), 3) := by decide +kernel
theorem dX3_drop_54 : decode cX3_drop 54 = .ok (.return_, 1) := by decide +kernel

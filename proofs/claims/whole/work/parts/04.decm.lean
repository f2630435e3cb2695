theorem dX6_init_0 : decode cX6_init 0 = .ok (.aload_n 0, 1) := by decide +kernel
theorem dX6_init_1 : decode cX6_init 1 = .ok (.invokespecial 1, 3) := by decide +kernel
theorem dX6_init_4 : decode cX6_init 4 = .ok (.aload_n 0, 1) := by decide +kernel
theorem dX6_init_5 : decode cX6_init 5 = .ok (.sipush 139, 3) := by decide +kernel
theorem dX6_init_8 : decode cX6_init 8 = .ok (.newarray .int, 2) := by decide +kernel
theorem dX6_init_10 : decode cX6_init 10 = .ok (.putfield 7, 3) := by decide +kernel
theorem dX6_init_13 : decode cX6_init 13 = .ok (.aload_n 0, 1) := by decide +kernel
theorem dX6_init_14 : decode cX6_init 14 = .ok (.sipush 139, 3) := by decide +kernel
theorem dX6_init_17 : decode cX6_init 17 = .ok (.newarray .int, 2) := by decide +kernel
theorem dX6_init_19 : decode cX6_init 19 = .ok (.putfield 13, 3) := by decide +kernel
theorem dX6_init_22 : decode cX6_init 22 = .ok (.aload_n 0, 1) := by decide +kernel
theorem dX6_init_23 : decode cX6_init 23 = .ok (.sipush 834, 3) := by decide +kernel
theorem dX6_init_26 : decode cX6_init 26 = .ok (.newarray .int, 2) := by decide +kernel
theorem dX6_init_28 : decode cX6_init 28 = .ok (.putfield 16, 3) := by decide +kernel
theorem dX6_init_31 : decode cX6_init 31 = .ok (.aload_n 0, 1) := by decide +kernel
theorem dX6_init_32 : decode cX6_init 32 = .ok (.sipush 278, 3) := by decide +kernel
theorem dX6_init_35 : decode cX6_init 35 = .ok (.newarray .int, 2) := by decide +kernel
theorem dX6_init_37 : decode cX6_init 37 = .ok (.putfield 19, 3) := by decide +kernel
theorem dX6_init_40 : decode cX6_init 40 = .ok (.aload_n 0, 1) := by decide +kernel
theorem dX6_init_41 : decode cX6_init 41 = .ok (.iconst 2, 1) := by decide +kernel
theorem dX6_init_42 : decode cX6_init 42 = .ok (.newarray .int, 2) := by decide +kernel
theorem dX6_init_44 : decode cX6_init 44 = .ok (.putfield 22, 3) := by decide +kernel
theorem dX6_init_47 : decode cX6_init 47 = .ok (.aload_n 0, 1) := by decide +kernel
theorem dX6_init_48 : decode cX6_init 48 = .ok (.bipush 64, 2) := by decide +kernel
theorem dX6_init_50 : decode cX6_init 50 = .ok (.newarray .int, 2) := by decide +kernel
theorem dX6_init_52 : decode cX6_init 52 = .ok (.putfield 25, 3) := by decide +kernel
theorem dX6_init_55 : decode cX6_init 55 = .ok (.aload_n 0, 1) := by decide +kernel
theorem dX6_init_56 : decode cX6_init 56 = .ok (.getfield 7, 3) := by decide +kernel
theorem dX6_init_59 : decode cX6_init 59 = .ok (.iconst 0, 1) := by decide +kernel
theorem dX6_init_60 : decode cX6_init 60 = .ok (.iconst 3, 1) := by decide +kernel
theorem dX6_init_61 : decode cX6_init 61 = .ok (.iastore, 1) := by decide +kernel
theorem dX6_init_62 : decode cX6_init 62 = .ok (.aload_n 0, 1) := by decide +kernel
theorem dX6_init_63 : decode cX6_init 63 = .ok (.getfield 7, 3) := by decide +kernel
theorem dX6_init_66 : decode cX6_init 66 = .ok (.iconst 1, 1) := by decide +kernel
theorem dX6_init_67 : decode cX6_init 67 = .ok (.bipush 10, 2) := by decide +kernel
theorem dX6_init_69 : decode cX6_init 69 = .ok (.iastore, 1) := by decide +kernel
theorem dX6_init_70 : decode cX6_init 70 = .ok (.aload_n 0, 1) := by decide +kernel
theorem dX6_init_71 : decode cX6_init 71 = .ok (.getfield 7, 3) := by decide +kernel
theorem dX6_init_74 : decode cX6_init 74 = .ok (.iconst 2, 1) := by decide +kernel
theorem dX6_init_75 : decode cX6_init 75 = .ok (.bipush 20, 2) := by decide +kernel
theorem dX6_init_77 : decode cX6_init 77 = .ok (.iastore, 1) := by decide +kernel
theorem dX6_init_78 : decode cX6_init 78 = .ok (.aload_n 0, 1) := by decide +kernel
theorem dX6_init_79 : decode cX6_init 79 = .ok (.getfield 7, 3) := by decide +kernel
theorem dX6_init_82 : decode cX6_init 82 = .ok (.iconst 3, 1) := by decide +kernel
theorem dX6_init_83 : decode cX6_init 83 = .ok (.iconst 2, 1) := by decide +kernel
theorem dX6_init_84 : decode cX6_init 84 = .ok (.iastore, 1) := by decide +kernel
theorem dX6_init_85 : decode cX6_init 85 = .ok (.iconst 0, 1) := by decide +kernel
theorem dX6_init_86 : decode cX6_init 86 = .ok (.istore_n 1, 1) := by decide +kernel
theorem dX6_init_87 : decode cX6_init 87 = .ok (.iload_n 1, 1) := by decide +kernel
theorem dX6_init_88 : decode cX6_init 88 = .ok (.iconst 2, 1) := by decide +kernel
theorem dX6_init_89 : decode cX6_init 89 = .ok (.if_icmp .ge 35, 3) := by decide +kernel
theorem dX6_init_92 : decode cX6_init 92 = .ok (.iconst 0, 1) := by decide +kernel
theorem dX6_init_93 : decode cX6_init 93 = .ok (.istore_n 2, 1) := by decide +kernel
theorem dX6_init_94 : decode cX6_init 94 = .ok (.iload_n 2, 1) := by decide +kernel
theorem dX6_init_95 : decode cX6_init 95 = .ok (.bipush 32, 2) := by decide +kernel
theorem dX6_init_97 : decode cX6_init 97 = .ok (.if_icmp .ge 21, 3) := by decide +kernel
theorem dX6_init_100 : decode cX6_init 100 = .ok (.aload_n 0, 1) := by decide +kernel
theorem dX6_init_101 : decode cX6_init 101 = .ok (.iload_n 1, 1) := by decide +kernel
theorem dX6_init_102 : decode cX6_init 102 = .ok (.bipush 14, 2) := by decide +kernel
theorem dX6_init_104 : decode cX6_init 104 = .ok (.iload_n 2, 1) := by decide +kernel
theorem dX6_init_105 : decode cX6_init 105 = .ok (.iadd, 1) := by decide +kernel
theorem dX6_init_106 : decode cX6_init 106 = .ok (.sipush 255, 3) := by decide +kernel
theorem dX6_init_109 : decode cX6_init 109 = .ok (.invokevirtual 28, 3) := by decide +kernel
theorem dX6_init_112 : decode cX6_init 112 = .ok (.iinc 2 1, 3) := by decide +kernel
theorem dX6_init_115 : decode cX6_init 115 = .ok (.goto (-21), 3) := by decide +kernel
theorem dX6_init_118 : decode cX6_init 118 = .ok (.iinc 1 1, 3) := by decide +kernel
theorem dX6_init_121 : decode cX6_init 121 = .ok (.goto (-34), 3) := by decide +kernel
theorem dX6_init_124 : decode cX6_init 124 = .ok (.return_, 1) := by decide +kernel
theorem dX6_moves_0 : decode cX6_moves 0 = .ok (.iconst 0, 1) := by decide +kernel
theorem dX6_moves_1 : decode cX6_moves 1 = .ok (.istore 4, 2) := by decide +kernel
theorem dX6_moves_3 : decode cX6_moves 3 = .ok (.iload 4, 2) := by decide +kernel
theorem dX6_moves_5 : decode cX6_moves 5 = .ok (.sipush 139, 3) := by decide +kernel
theorem dX6_moves_8 : decode cX6_moves 8 = .ok (.if_icmp .ge 21, 3) := by decide +kernel
theorem dX6_moves_11 : decode cX6_moves 11 = .ok (.aload_n 2, 1) := by decide +kernel
theorem dX6_moves_12 : decode cX6_moves 12 = .ok (.iload_n 3, 1) := by decide +kernel
theorem dX6_moves_13 : decode cX6_moves 13 = .ok (.iload 4, 2) := by decide +kernel
theorem dX6_moves_15 : decode cX6_moves 15 = .ok (.iadd, 1) := by decide +kernel
theorem dX6_moves_16 : decode cX6_moves 16 = .ok (.aload_n 0, 1) := by decide +kernel
theorem dX6_moves_17 : decode cX6_moves 17 = .ok (.iload_n 1, 1) := by decide +kernel
theorem dX6_moves_18 : decode cX6_moves 18 = .ok (.iload 4, 2) := by decide +kernel
theorem dX6_moves_20 : decode cX6_moves 20 = .ok (.iadd, 1) := by decide +kernel
theorem dX6_moves_21 : decode cX6_moves 21 = .ok (.iaload, 1) := by decide +kernel
theorem dX6_moves_22 : decode cX6_moves 22 = .ok (.iastore, 1) := by decide +kernel
theorem dX6_moves_23 : decode cX6_moves 23 = .ok (.iinc 4 1, 3) := by decide +kernel
theorem dX6_moves_26 : decode cX6_moves 26 = .ok (.goto (-23), 3) := by decide +kernel
theorem dX6_moves_29 : decode cX6_moves 29 = .ok (.return_, 1) := by decide +kernel
theorem dX6_within_0 : decode cX6_within 0 = .ok (.iload_n 0, 1) := by decide +kernel
theorem dX6_within_1 : decode cX6_within 1 = .ok (.iload_n 1, 1) := by decide +kernel
theorem dX6_within_2 : decode cX6_within 2 = .ok (.if_icmp .lt 12, 3) := by decide +kernel
theorem dX6_within_5 : decode cX6_within 5 = .ok (.iload_n 0, 1) := by decide +kernel
theorem dX6_within_6 : decode cX6_within 6 = .ok (.iload_n 2, 1) := by decide +kernel
theorem dX6_within_7 : decode cX6_within 7 = .ok (.if_icmp .gt 7, 3) := by decide +kernel
theorem dX6_within_10 : decode cX6_within 10 = .ok (.iconst 1, 1) := by decide +kernel
theorem dX6_within_11 : decode cX6_within 11 = .ok (.goto 4, 3) := by decide +kernel
theorem dX6_within_14 : decode cX6_within 14 = .ok (.iconst 0, 1) := by decide +kernel
theorem dX6_within_15 : decode cX6_within 15 = .ok (.ireturn, 1) := by decide +kernel
theorem dX6_record_0 : decode cX6_record 0 = .ok (.aload_n 0, 1) := by decide +kernel
theorem dX6_record_1 : decode cX6_record 1 = .ok (.getfield 32, 3) := by decide +kernel
theorem dX6_record_4 : decode cX6_record 4 = .ok (.bipush 6, 2) := by decide +kernel
theorem dX6_record_6 : decode cX6_record 6 = .ok (.if_icmp .ne 44, 3) := by decide +kernel
theorem dX6_record_9 : decode cX6_record 9 = .ok (.iconst 0, 1) := by decide +kernel
theorem dX6_record_10 : decode cX6_record 10 = .ok (.istore_n 1, 1) := by decide +kernel
theorem dX6_record_11 : decode cX6_record 11 = .ok (.iload_n 1, 1) := by decide +kernel
theorem dX6_record_12 : decode cX6_record 12 = .ok (.sipush 695, 3) := by decide +kernel
theorem dX6_record_15 : decode cX6_record 15 = .ok (.if_icmp .ge 25, 3) := by decide +kernel
theorem dX6_record_18 : decode cX6_record 18 = .ok (.aload_n 0, 1) := by decide +kernel
theorem dX6_record_19 : decode cX6_record 19 = .ok (.getfield 16, 3) := by decide +kernel
theorem dX6_record_22 : decode cX6_record 22 = .ok (.iload_n 1, 1) := by decide +kernel
theorem dX6_record_23 : decode cX6_record 23 = .ok (.aload_n 0, 1) := by decide +kernel
theorem dX6_record_24 : decode cX6_record 24 = .ok (.getfield 16, 3) := by decide +kernel
theorem dX6_record_27 : decode cX6_record 27 = .ok (.iload_n 1, 1) := by decide +kernel
theorem dX6_record_28 : decode cX6_record 28 = .ok (.sipush 139, 3) := by decide +kernel
theorem dX6_record_31 : decode cX6_record 31 = .ok (.iadd, 1) := by decide +kernel
theorem dX6_record_32 : decode cX6_record 32 = .ok (.iaload, 1) := by decide +kernel
theorem dX6_record_33 : decode cX6_record 33 = .ok (.iastore, 1) := by decide +kernel
theorem dX6_record_34 : decode cX6_record 34 = .ok (.iinc 1 1, 3) := by decide +kernel
theorem dX6_record_37 : decode cX6_record 37 = .ok (.goto (-26), 3) := by decide +kernel
theorem dX6_record_40 : decode cX6_record 40 = .ok (.aload_n 0, 1) := by decide +kernel
theorem dX6_record_41 : decode cX6_record 41 = .ok (.dup, 1) := by decide +kernel
theorem dX6_record_42 : decode cX6_record 42 = .ok (.getfield 32, 3) := by decide +kernel
theorem dX6_record_45 : decode cX6_record 45 = .ok (.iconst 1, 1) := by decide +kernel
theorem dX6_record_46 : decode cX6_record 46 = .ok (.isub, 1) := by decide +kernel
theorem dX6_record_47 : decode cX6_record 47 = .ok (.putfield 32, 3) := by decide +kernel
theorem dX6_record_50 : decode cX6_record 50 = .ok (.aload_n 0, 1) := by decide +kernel
theorem dX6_record_51 : decode cX6_record 51 = .ok (.getfield 7, 3) := by decide +kernel
theorem dX6_record_54 : decode cX6_record 54 = .ok (.iconst 0, 1) := by decide +kernel
theorem dX6_record_55 : decode cX6_record 55 = .ok (.aload_n 0, 1) := by decide +kernel
theorem dX6_record_56 : decode cX6_record 56 = .ok (.getfield 16, 3) := by decide +kernel
theorem dX6_record_59 : decode cX6_record 59 = .ok (.aload_n 0, 1) := by decide +kernel
theorem dX6_record_60 : decode cX6_record 60 = .ok (.getfield 32, 3) := by decide +kernel
theorem dX6_record_63 : decode cX6_record 63 = .ok (.sipush 139, 3) := by decide +kernel
theorem dX6_record_66 : decode cX6_record 66 = .ok (.imul, 1) := by decide +kernel
theorem dX6_record_67 : decode cX6_record 67 = .ok (.invokestatic 36, 3) := by decide +kernel
theorem dX6_record_70 : decode cX6_record 70 = .ok (.aload_n 0, 1) := by decide +kernel
theorem dX6_record_71 : decode cX6_record 71 = .ok (.dup, 1) := by decide +kernel
theorem dX6_record_72 : decode cX6_record 72 = .ok (.getfield 32, 3) := by decide +kernel
theorem dX6_record_75 : decode cX6_record 75 = .ok (.iconst 1, 1) := by decide +kernel
theorem dX6_record_76 : decode cX6_record 76 = .ok (.iadd, 1) := by decide +kernel
theorem dX6_record_77 : decode cX6_record 77 = .ok (.putfield 32, 3) := by decide +kernel
theorem dX6_record_80 : decode cX6_record 80 = .ok (.return_, 1) := by decide +kernel
theorem dX6_isSlot_0 : decode cX6_isSlot 0 = .ok (.iload_n 0, 1) := by decide +kernel
theorem dX6_isSlot_1 : decode cX6_isSlot 1 = .ok (.iconst 0, 1) := by decide +kernel
theorem dX6_isSlot_2 : decode cX6_isSlot 2 = .ok (.iconst 1, 1) := by decide +kernel
theorem dX6_isSlot_3 : decode cX6_isSlot 3 = .ok (.invokestatic 40, 3) := by decide +kernel
theorem dX6_isSlot_6 : decode cX6_isSlot 6 = .ok (.ireturn, 1) := by decide +kernel
theorem dX6_part_0 : decode cX6_part 0 = .ok (.aload_n 0, 1) := by decide +kernel
theorem dX6_part_1 : decode cX6_part 1 = .ok (.getfield 7, 3) := by decide +kernel
theorem dX6_part_4 : decode cX6_part 4 = .ok (.bipush 11, 2) := by decide +kernel
theorem dX6_part_6 : decode cX6_part 6 = .ok (.bipush 46, 2) := by decide +kernel
theorem dX6_part_8 : decode cX6_part 8 = .ok (.iload_n 1, 1) := by decide +kernel
theorem dX6_part_9 : decode cX6_part 9 = .ok (.imul, 1) := by decide +kernel
theorem dX6_part_10 : decode cX6_part 10 = .ok (.iadd, 1) := by decide +kernel
theorem dX6_part_11 : decode cX6_part 11 = .ok (.iload_n 2, 1) := by decide +kernel
theorem dX6_part_12 : decode cX6_part 12 = .ok (.iadd, 1) := by decide +kernel
theorem dX6_part_13 : decode cX6_part 13 = .ok (.iaload, 1) := by decide +kernel
theorem dX6_part_14 : decode cX6_part 14 = .ok (.ireturn, 1) := by decide +kernel
theorem dX6_setPart_0 : decode cX6_setPart 0 = .ok (.aload_n 0, 1) := by decide +kernel
theorem dX6_setPart_1 : decode cX6_setPart 1 = .ok (.getfield 7, 3) := by decide +kernel
theorem dX6_setPart_4 : decode cX6_setPart 4 = .ok (.bipush 11, 2) := by decide +kernel
theorem dX6_setPart_6 : decode cX6_setPart 6 = .ok (.bipush 46, 2) := by decide +kernel
theorem dX6_setPart_8 : decode cX6_setPart 8 = .ok (.iload_n 1, 1) := by decide +kernel
theorem dX6_setPart_9 : decode cX6_setPart 9 = .ok (.imul, 1) := by decide +kernel
theorem dX6_setPart_10 : decode cX6_setPart 10 = .ok (.iadd, 1) := by decide +kernel
theorem dX6_setPart_11 : decode cX6_setPart 11 = .ok (.iload_n 2, 1) := by decide +kernel
theorem dX6_setPart_12 : decode cX6_setPart 12 = .ok (.iadd, 1) := by decide +kernel
theorem dX6_setPart_13 : decode cX6_setPart 13 = .ok (.iload_n 3, 1) := by decide +kernel
theorem dX6_setPart_14 : decode cX6_setPart 14 = .ok (.iastore, 1) := by decide +kernel
theorem dX6_setPart_15 : decode cX6_setPart 15 = .ok (.return_, 1) := by decide +kernel
theorem dX6_isHow_0 : decode cX6_isHow 0 = .ok (.aload_n 0, 1) := by decide +kernel
theorem dX6_isHow_1 : decode cX6_isHow 1 = .ok (.iload_n 1, 1) := by decide +kernel
theorem dX6_isHow_2 : decode cX6_isHow 2 = .ok (.iconst 0, 1) := by decide +kernel
theorem dX6_isHow_3 : decode cX6_isHow 3 = .ok (.invokevirtual 44, 3) := by decide +kernel
theorem dX6_isHow_6 : decode cX6_isHow 6 = .ok (.iload_n 2, 1) := by decide +kernel
theorem dX6_isHow_7 : decode cX6_isHow 7 = .ok (.if_icmp .ne 7, 3) := by decide +kernel
theorem dX6_isHow_10 : decode cX6_isHow 10 = .ok (.iconst 1, 1) := by decide +kernel
theorem dX6_isHow_11 : decode cX6_isHow 11 = .ok (.goto 4, 3) := by decide +kernel
theorem dX6_isHow_14 : decode cX6_isHow 14 = .ok (.iconst 0, 1) := by decide +kernel
theorem dX6_isHow_15 : decode cX6_isHow 15 = .ok (.ireturn, 1) := by decide +kernel
theorem dX6_wordOf_0 : decode cX6_wordOf 0 = .ok (.iload_n 1, 1) := by decide +kernel
theorem dX6_wordOf_1 : decode cX6_wordOf 1 = .ok (.iconst 2, 1) := by decide +kernel
theorem dX6_wordOf_2 : decode cX6_wordOf 2 = .ok (.if_icmp .eq 15, 3) := by decide +kernel
theorem dX6_wordOf_5 : decode cX6_wordOf 5 = .ok (.aload_n 0, 1) := by decide +kernel
theorem dX6_wordOf_6 : decode cX6_wordOf 6 = .ok (.iload_n 1, 1) := by decide +kernel
theorem dX6_wordOf_7 : decode cX6_wordOf 7 = .ok (.bipush 14, 2) := by decide +kernel
theorem dX6_wordOf_9 : decode cX6_wordOf 9 = .ok (.iload_n 2, 1) := by decide +kernel
theorem dX6_wordOf_10 : decode cX6_wordOf 10 = .ok (.iadd, 1) := by decide +kernel
theorem dX6_wordOf_11 : decode cX6_wordOf 11 = .ok (.invokevirtual 44, 3) := by decide +kernel
theorem dX6_wordOf_14 : decode cX6_wordOf 14 = .ok (.goto 15, 3) := by decide +kernel
theorem dX6_wordOf_17 : decode cX6_wordOf 17 = .ok (.iload_n 2, 1) := by decide +kernel
theorem dX6_wordOf_18 : decode cX6_wordOf 18 = .ok (.iconst 2, 1) := by decide +kernel
theorem dX6_wordOf_19 : decode cX6_wordOf 19 = .ok (.if_icmp .ge 7, 3) := by decide +kernel
theorem dX6_wordOf_22 : decode cX6_wordOf 22 = .ok (.iconst 0, 1) := by decide +kernel
theorem dX6_wordOf_23 : decode cX6_wordOf 23 = .ok (.goto 6, 3) := by decide +kernel
theorem dX6_wordOf_26 : decode cX6_wordOf 26 = .ok (.sipush 255, 3) := by decide +kernel
theorem dX6_wordOf_29 : decode cX6_wordOf 29 = .ok (.ireturn, 1) := by decide +kernel
theorem dX6_sumOf_0 : decode cX6_sumOf 0 = .ok (.iload_n 1, 1) := by decide +kernel
theorem dX6_sumOf_1 : decode cX6_sumOf 1 = .ok (.iconst 2, 1) := by decide +kernel
theorem dX6_sumOf_2 : decode cX6_sumOf 2 = .ok (.if_icmp .ne 7, 3) := by decide +kernel
theorem dX6_sumOf_5 : decode cX6_sumOf 5 = .ok (.iconst 2, 1) := by decide +kernel
theorem dX6_sumOf_6 : decode cX6_sumOf 6 = .ok (.goto 9, 3) := by decide +kernel
theorem dX6_sumOf_9 : decode cX6_sumOf 9 = .ok (.aload_n 0, 1) := by decide +kernel
theorem dX6_sumOf_10 : decode cX6_sumOf 10 = .ok (.iload_n 1, 1) := by decide +kernel
theorem dX6_sumOf_11 : decode cX6_sumOf 11 = .ok (.iconst 2, 1) := by decide +kernel
theorem dX6_sumOf_12 : decode cX6_sumOf 12 = .ok (.invokevirtual 44, 3) := by decide +kernel
theorem dX6_sumOf_15 : decode cX6_sumOf 15 = .ok (.istore_n 2, 1) := by decide +kernel
theorem dX6_sumOf_16 : decode cX6_sumOf 16 = .ok (.iconst 1, 1) := by decide +kernel
theorem dX6_sumOf_17 : decode cX6_sumOf 17 = .ok (.istore_n 3, 1) := by decide +kernel
theorem dX6_sumOf_18 : decode cX6_sumOf 18 = .ok (.iconst 0, 1) := by decide +kernel
theorem dX6_sumOf_19 : decode cX6_sumOf 19 = .ok (.istore 4, 2) := by decide +kernel
theorem dX6_sumOf_21 : decode cX6_sumOf 21 = .ok (.iload 4, 2) := by decide +kernel
theorem dX6_sumOf_23 : decode cX6_sumOf 23 = .ok (.iload_n 2, 1) := by decide +kernel
theorem dX6_sumOf_24 : decode cX6_sumOf 24 = .ok (.if_icmp .ge 25, 3) := by decide +kernel
theorem dX6_sumOf_27 : decode cX6_sumOf 27 = .ok (.iconst 3, 1) := by decide +kernel
theorem dX6_sumOf_28 : decode cX6_sumOf 28 = .ok (.iload_n 3, 1) := by decide +kernel
theorem dX6_sumOf_29 : decode cX6_sumOf 29 = .ok (.imul, 1) := by decide +kernel
theorem dX6_sumOf_30 : decode cX6_sumOf 30 = .ok (.aload_n 0, 1) := by decide +kernel
theorem dX6_sumOf_31 : decode cX6_sumOf 31 = .ok (.iload_n 1, 1) := by decide +kernel
theorem dX6_sumOf_32 : decode cX6_sumOf 32 = .ok (.iload 4, 2) := by decide +kernel
theorem dX6_sumOf_34 : decode cX6_sumOf 34 = .ok (.invokevirtual 48, 3) := by decide +kernel
theorem dX6_sumOf_37 : decode cX6_sumOf 37 = .ok (.iadd, 1) := by decide +kernel
theorem dX6_sumOf_38 : decode cX6_sumOf 38 = .ok (.sipush 251, 3) := by decide +kernel
theorem dX6_sumOf_41 : decode cX6_sumOf 41 = .ok (.irem, 1) := by decide +kernel
theorem dX6_sumOf_42 : decode cX6_sumOf 42 = .ok (.istore_n 3, 1) := by decide +kernel
theorem dX6_sumOf_43 : decode cX6_sumOf 43 = .ok (.iinc 4 1, 3) := by decide +kernel
theorem dX6_sumOf_46 : decode cX6_sumOf 46 = .ok (.goto (-25), 3) := by decide +kernel
theorem dX6_sumOf_49 : decode cX6_sumOf 49 = .ok (.iload_n 3, 1) := by decide +kernel
theorem dX6_sumOf_50 : decode cX6_sumOf 50 = .ok (.ireturn, 1) := by decide +kernel
theorem dX6_isSound_0 : decode cX6_isSound 0 = .ok (.aload_n 0, 1) := by decide +kernel
theorem dX6_isSound_1 : decode cX6_isSound 1 = .ok (.iload_n 1, 1) := by decide +kernel
theorem dX6_isSound_2 : decode cX6_isSound 2 = .ok (.invokevirtual 51, 3) := by decide +kernel
theorem dX6_isSound_5 : decode cX6_isSound 5 = .ok (.aload_n 0, 1) := by decide +kernel
theorem dX6_isSound_6 : decode cX6_isSound 6 = .ok (.iload_n 1, 1) := by decide +kernel
theorem dX6_isSound_7 : decode cX6_isSound 7 = .ok (.iconst 3, 1) := by decide +kernel
theorem dX6_isSound_8 : decode cX6_isSound 8 = .ok (.invokevirtual 44, 3) := by decide +kernel
theorem dX6_isSound_11 : decode cX6_isSound 11 = .ok (.if_icmp .ne 7, 3) := by decide +kernel
theorem dX6_isSound_14 : decode cX6_isSound 14 = .ok (.iconst 1, 1) := by decide +kernel
theorem dX6_isSound_15 : decode cX6_isSound 15 = .ok (.goto 4, 3) := by decide +kernel
theorem dX6_isSound_18 : decode cX6_isSound 18 = .ok (.iconst 0, 1) := by decide +kernel
theorem dX6_isSound_19 : decode cX6_isSound 19 = .ok (.ireturn, 1) := by decide +kernel
theorem dX6_pagesOf_0 : decode cX6_pagesOf 0 = .ok (.iload_n 0, 1) := by decide +kernel
theorem dX6_pagesOf_1 : decode cX6_pagesOf 1 = .ok (.iconst 4, 1) := by decide +kernel
theorem dX6_pagesOf_2 : decode cX6_pagesOf 2 = .ok (.iadd, 1) := by decide +kernel
theorem dX6_pagesOf_3 : decode cX6_pagesOf 3 = .ok (.iconst 1, 1) := by decide +kernel
theorem dX6_pagesOf_4 : decode cX6_pagesOf 4 = .ok (.isub, 1) := by decide +kernel
theorem dX6_pagesOf_5 : decode cX6_pagesOf 5 = .ok (.iconst 4, 1) := by decide +kernel
theorem dX6_pagesOf_6 : decode cX6_pagesOf 6 = .ok (.idiv, 1) := by decide +kernel
theorem dX6_pagesOf_7 : decode cX6_pagesOf 7 = .ok (.ireturn, 1) := by decide +kernel
theorem dX6_isWorn_0 : decode cX6_isWorn 0 = .ok (.aload_n 0, 1) := by decide +kernel
theorem dX6_isWorn_1 : decode cX6_isWorn 1 = .ok (.iload_n 1, 1) := by decide +kernel
theorem dX6_isWorn_2 : decode cX6_isWorn 2 = .ok (.bipush 6, 2) := by decide +kernel
theorem dX6_isWorn_4 : decode cX6_isWorn 4 = .ok (.iload_n 2, 1) := by decide +kernel
theorem dX6_isWorn_5 : decode cX6_isWorn 5 = .ok (.iadd, 1) := by decide +kernel
theorem dX6_isWorn_6 : decode cX6_isWorn 6 = .ok (.invokevirtual 44, 3) := by decide +kernel
theorem dX6_isWorn_9 : decode cX6_isWorn 9 = .ok (.aload_n 0, 1) := by decide +kernel
theorem dX6_isWorn_10 : decode cX6_isWorn 10 = .ok (.getfield 7, 3) := by decide +kernel
theorem dX6_isWorn_13 : decode cX6_isWorn 13 = .ok (.iconst 2, 1) := by decide +kernel
theorem dX6_isWorn_14 : decode cX6_isWorn 14 = .ok (.iaload, 1) := by decide +kernel
theorem dX6_isWorn_15 : decode cX6_isWorn 15 = .ok (.if_icmp .lt 7, 3) := by decide +kernel
theorem dX6_isWorn_18 : decode cX6_isWorn 18 = .ok (.iconst 1, 1) := by decide +kernel
theorem dX6_isWorn_19 : decode cX6_isWorn 19 = .ok (.goto 4, 3) := by decide +kernel
theorem dX6_isWorn_22 : decode cX6_isWorn 22 = .ok (.iconst 0, 1) := by decide +kernel
theorem dX6_isWorn_23 : decode cX6_isWorn 23 = .ok (.ireturn, 1) := by decide +kernel
theorem dX6_isAnyWorn_0 : decode cX6_isAnyWorn 0 = .ok (.iconst 0, 1) := by decide +kernel
theorem dX6_isAnyWorn_1 : decode cX6_isAnyWorn 1 = .ok (.istore_n 3, 1) := by decide +kernel
theorem dX6_isAnyWorn_2 : decode cX6_isAnyWorn 2 = .ok (.iconst 0, 1) := by decide +kernel
theorem dX6_isAnyWorn_3 : decode cX6_isAnyWorn 3 = .ok (.istore 4, 2) := by decide +kernel
theorem dX6_isAnyWorn_5 : decode cX6_isAnyWorn 5 = .ok (.iload 4, 2) := by decide +kernel
theorem dX6_isAnyWorn_7 : decode cX6_isAnyWorn 7 = .ok (.iload_n 2, 1) := by decide +kernel
theorem dX6_isAnyWorn_8 : decode cX6_isAnyWorn 8 = .ok (.if_icmp .ge 29, 3) := by decide +kernel
theorem dX6_isAnyWorn_11 : decode cX6_isAnyWorn 11 = .ok (.iload_n 3, 1) := by decide +kernel
theorem dX6_isAnyWorn_12 : decode cX6_isAnyWorn 12 = .ok (.ifCond .ne 13, 3) := by decide +kernel
theorem dX6_isAnyWorn_15 : decode cX6_isAnyWorn 15 = .ok (.aload_n 0, 1) := by decide +kernel
theorem dX6_isAnyWorn_16 : decode cX6_isAnyWorn 16 = .ok (.iload_n 1, 1) := by decide +kernel
theorem dX6_isAnyWorn_17 : decode cX6_isAnyWorn 17 = .ok (.iload 4, 2) := by decide +kernel
theorem dX6_isAnyWorn_19 : decode cX6_isAnyWorn 19 = .ok (.invokevirtual 55, 3) := by decide +kernel
theorem dX6_isAnyWorn_22 : decode cX6_isAnyWorn 22 = .ok (.ifCond .eq 7, 3) := by decide +kernel
theorem dX6_isAnyWorn_25 : decode cX6_isAnyWorn 25 = .ok (.iconst 1, 1) := by decide +kernel
theorem dX6_isAnyWorn_26 : decode cX6_isAnyWorn 26 = .ok (.goto 4, 3) := by decide +kernel
theorem dX6_isAnyWorn_29 : decode cX6_isAnyWorn 29 = .ok (.iconst 0, 1) := by decide +kernel
theorem dX6_isAnyWorn_30 : decode cX6_isAnyWorn 30 = .ok (.istore_n 3, 1) := by decide +kernel
theorem dX6_isAnyWorn_31 : decode cX6_isAnyWorn 31 = .ok (.iinc 4 1, 3) := by decide +kernel
theorem dX6_isAnyWorn_34 : decode cX6_isAnyWorn 34 = .ok (.goto (-29), 3) := by decide +kernel
theorem dX6_isAnyWorn_37 : decode cX6_isAnyWorn 37 = .ok (.iload_n 3, 1) := by decide +kernel
theorem dX6_isAnyWorn_38 : decode cX6_isAnyWorn 38 = .ok (.ireturn, 1) := by decide +kernel
theorem dX6_emptyPage_0 : decode cX6_emptyPage 0 = .ok (.iconst 0, 1) := by decide +kernel
theorem dX6_emptyPage_1 : decode cX6_emptyPage 1 = .ok (.istore_n 3, 1) := by decide +kernel
theorem dX6_emptyPage_2 : decode cX6_emptyPage 2 = .ok (.iload_n 3, 1) := by decide +kernel
theorem dX6_emptyPage_3 : decode cX6_emptyPage 3 = .ok (.iconst 4, 1) := by decide +kernel
theorem dX6_emptyPage_4 : decode cX6_emptyPage 4 = .ok (.if_icmp .ge 25, 3) := by decide +kernel
theorem dX6_emptyPage_7 : decode cX6_emptyPage 7 = .ok (.aload_n 0, 1) := by decide +kernel
theorem dX6_emptyPage_8 : decode cX6_emptyPage 8 = .ok (.iload_n 1, 1) := by decide +kernel
theorem dX6_emptyPage_9 : decode cX6_emptyPage 9 = .ok (.bipush 14, 2) := by decide +kernel
theorem dX6_emptyPage_11 : decode cX6_emptyPage 11 = .ok (.iconst 4, 1) := by decide +kernel
theorem dX6_emptyPage_12 : decode cX6_emptyPage 12 = .ok (.iload_n 2, 1) := by decide +kernel
theorem dX6_emptyPage_13 : decode cX6_emptyPage 13 = .ok (.imul, 1) := by decide +kernel
theorem dX6_emptyPage_14 : decode cX6_emptyPage 14 = .ok (.iadd, 1) := by decide +kernel
theorem dX6_emptyPage_15 : decode cX6_emptyPage 15 = .ok (.iload_n 3, 1) := by decide +kernel
theorem dX6_emptyPage_16 : decode cX6_emptyPage 16 = .ok (.iadd, 1) := by decide +kernel
theorem dX6_emptyPage_17 : decode cX6_emptyPage 17 = .ok (.sipush 255, 3) := by decide +kernel
theorem dX6_emptyPage_20 : decode cX6_emptyPage 20 = .ok (.invokevirtual 28, 3) := by decide +kernel
theorem dX6_emptyPage_23 : decode cX6_emptyPage 23 = .ok (.iinc 3 1, 3) := by decide +kernel
theorem dX6_emptyPage_26 : decode cX6_emptyPage 26 = .ok (.goto (-24), 3) := by decide +kernel
theorem dX6_emptyPage_29 : decode cX6_emptyPage 29 = .ok (.aload_n 0, 1) := by decide +kernel
theorem dX6_emptyPage_30 : decode cX6_emptyPage 30 = .ok (.iload_n 1, 1) := by decide +kernel
theorem dX6_emptyPage_31 : decode cX6_emptyPage 31 = .ok (.bipush 6, 2) := by decide +kernel
theorem dX6_emptyPage_33 : decode cX6_emptyPage 33 = .ok (.iload_n 2, 1) := by decide +kernel
theorem dX6_emptyPage_34 : decode cX6_emptyPage 34 = .ok (.iadd, 1) := by decide +kernel
theorem dX6_emptyPage_35 : decode cX6_emptyPage 35 = .ok (.aload_n 0, 1) := by decide +kernel
theorem dX6_emptyPage_36 : decode cX6_emptyPage 36 = .ok (.iload_n 1, 1) := by decide +kernel
theorem dX6_emptyPage_37 : decode cX6_emptyPage 37 = .ok (.bipush 6, 2) := by decide +kernel
theorem dX6_emptyPage_39 : decode cX6_emptyPage 39 = .ok (.iload_n 2, 1) := by decide +kernel
theorem dX6_emptyPage_40 : decode cX6_emptyPage 40 = .ok (.iadd, 1) := by decide +kernel
theorem dX6_emptyPage_41 : decode cX6_emptyPage 41 = .ok (.invokevirtual 44, 3) := by decide +kernel
theorem dX6_emptyPage_44 : decode cX6_emptyPage 44 = .ok (.iconst 1, 1) := by decide +kernel
theorem dX6_emptyPage_45 : decode cX6_emptyPage 45 = .ok (.iadd, 1) := by decide +kernel
theorem dX6_emptyPage_46 : decode cX6_emptyPage 46 = .ok (.invokevirtual 28, 3) := by decide +kernel
theorem dX6_emptyPage_49 : decode cX6_emptyPage 49 = .ok (.return_, 1) := by decide +kernel
theorem dX6_greatestWear_0 : decode cX6_greatestWear 0 = .ok (.iconst 0, 1) := by decide +kernel
theorem dX6_greatestWear_1 : decode cX6_greatestWear 1 = .ok (.istore_n 3, 1) := by decide +kernel
theorem dX6_greatestWear_2 : decode cX6_greatestWear 2 = .ok (.iconst 0, 1) := by decide +kernel
theorem dX6_greatestWear_3 : decode cX6_greatestWear 3 = .ok (.istore 4, 2) := by decide +kernel
theorem dX6_greatestWear_5 : decode cX6_greatestWear 5 = .ok (.iload 4, 2) := by decide +kernel
theorem dX6_greatestWear_7 : decode cX6_greatestWear 7 = .ok (.iload_n 2, 1) := by decide +kernel
theorem dX6_greatestWear_8 : decode cX6_greatestWear 8 = .ok (.if_icmp .ge 38, 3) := by decide +kernel
theorem dX6_greatestWear_11 : decode cX6_greatestWear 11 = .ok (.aload_n 0, 1) := by decide +kernel
theorem dX6_greatestWear_12 : decode cX6_greatestWear 12 = .ok (.iload_n 1, 1) := by decide +kernel
theorem dX6_greatestWear_13 : decode cX6_greatestWear 13 = .ok (.bipush 6, 2) := by decide +kernel
theorem dX6_greatestWear_15 : decode cX6_greatestWear 15 = .ok (.iload 4, 2) := by decide +kernel
theorem dX6_greatestWear_17 : decode cX6_greatestWear 17 = .ok (.iadd, 1) := by decide +kernel
theorem dX6_greatestWear_18 : decode cX6_greatestWear 18 = .ok (.invokevirtual 44, 3) := by decide +kernel
theorem dX6_greatestWear_21 : decode cX6_greatestWear 21 = .ok (.iload_n 3, 1) := by decide +kernel
theorem dX6_greatestWear_22 : decode cX6_greatestWear 22 = .ok (.if_icmp .le 16, 3) := by decide +kernel
theorem dX6_greatestWear_25 : decode cX6_greatestWear 25 = .ok (.aload_n 0, 1) := by decide +kernel
theorem dX6_greatestWear_26 : decode cX6_greatestWear 26 = .ok (.iload_n 1, 1) := by decide +kernel
theorem dX6_greatestWear_27 : decode cX6_greatestWear 27 = .ok (.bipush 6, 2) := by decide +kernel
theorem dX6_greatestWear_29 : decode cX6_greatestWear 29 = .ok (.iload 4, 2) := by decide +kernel
theorem dX6_greatestWear_31 : decode cX6_greatestWear 31 = .ok (.iadd, 1) := by decide +kernel
theorem dX6_greatestWear_32 : decode cX6_greatestWear 32 = .ok (.invokevirtual 44, 3) := by decide +kernel
theorem dX6_greatestWear_35 : decode cX6_greatestWear 35 = .ok (.goto 4, 3) := by decide +kernel
theorem dX6_greatestWear_38 : decode cX6_greatestWear 38 = .ok (.iload_n 3, 1) := by decide +kernel
theorem dX6_greatestWear_39 : decode cX6_greatestWear 39 = .ok (.istore_n 3, 1) := by decide +kernel
theorem dX6_greatestWear_40 : decode cX6_greatestWear 40 = .ok (.iinc 4 1, 3) := by decide +kernel
theorem dX6_greatestWear_43 : decode cX6_greatestWear 43 = .ok (.goto (-38), 3) := by decide +kernel
theorem dX6_greatestWear_46 : decode cX6_greatestWear 46 = .ok (.iload_n 3, 1) := by decide +kernel
theorem dX6_greatestWear_47 : decode cX6_greatestWear 47 = .ok (.ireturn, 1) := by decide +kernel
theorem dX6_canBe_0 : decode cX6_canBe 0 = .ok (.aload_n 0, 1) := by decide +kernel
theorem dX6_canBe_1 : decode cX6_canBe 1 = .ok (.iload_n 1, 1) := by decide +kernel
theorem dX6_canBe_2 : decode cX6_canBe 2 = .ok (.iload_n 2, 1) := by decide +kernel
theorem dX6_canBe_3 : decode cX6_canBe 3 = .ok (.invokevirtual 59, 3) := by decide +kernel
theorem dX6_canBe_6 : decode cX6_canBe 6 = .ok (.ifCond .eq 21, 3) := by decide +kernel
theorem dX6_canBe_9 : decode cX6_canBe 9 = .ok (.iload_n 2, 1) := by decide +kernel
theorem dX6_canBe_10 : decode cX6_canBe 10 = .ok (.iconst 3, 1) := by decide +kernel
theorem dX6_canBe_11 : decode cX6_canBe 11 = .ok (.if_icmp .eq 12, 3) := by decide +kernel
theorem dX6_canBe_14 : decode cX6_canBe 14 = .ok (.aload_n 0, 1) := by decide +kernel
theorem dX6_canBe_15 : decode cX6_canBe 15 = .ok (.iload_n 1, 1) := by decide +kernel
theorem dX6_canBe_16 : decode cX6_canBe 16 = .ok (.iconst 4, 1) := by decide +kernel
theorem dX6_canBe_17 : decode cX6_canBe 17 = .ok (.invokevirtual 44, 3) := by decide +kernel
theorem dX6_canBe_20 : decode cX6_canBe 20 = .ok (.ifCond .le 7, 3) := by decide +kernel
theorem dX6_canBe_23 : decode cX6_canBe 23 = .ok (.iconst 1, 1) := by decide +kernel
theorem dX6_canBe_24 : decode cX6_canBe 24 = .ok (.goto 4, 3) := by decide +kernel
theorem dX6_canBe_27 : decode cX6_canBe 27 = .ok (.iconst 0, 1) := by decide +kernel
theorem dX6_canBe_28 : decode cX6_canBe 28 = .ok (.ireturn, 1) := by decide +kernel
theorem dX6_greatest_0 : decode cX6_greatest 0 = .ok (.aload_n 0, 1) := by decide +kernel
theorem dX6_greatest_1 : decode cX6_greatest 1 = .ok (.iconst 0, 1) := by decide +kernel
theorem dX6_greatest_2 : decode cX6_greatest 2 = .ok (.iload_n 1, 1) := by decide +kernel
theorem dX6_greatest_3 : decode cX6_greatest 3 = .ok (.invokevirtual 62, 3) := by decide +kernel
theorem dX6_greatest_6 : decode cX6_greatest 6 = .ok (.istore_n 2, 1) := by decide +kernel
theorem dX6_greatest_7 : decode cX6_greatest 7 = .ok (.aload_n 0, 1) := by decide +kernel
theorem dX6_greatest_8 : decode cX6_greatest 8 = .ok (.iconst 1, 1) := by decide +kernel
theorem dX6_greatest_9 : decode cX6_greatest 9 = .ok (.iload_n 1, 1) := by decide +kernel
theorem dX6_greatest_10 : decode cX6_greatest 10 = .ok (.invokevirtual 62, 3) := by decide +kernel
theorem dX6_greatest_13 : decode cX6_greatest 13 = .ok (.istore_n 3, 1) := by decide +kernel
theorem dX6_greatest_14 : decode cX6_greatest 14 = .ok (.iload_n 2, 1) := by decide +kernel
theorem dX6_greatest_15 : decode cX6_greatest 15 = .ok (.ifCond .eq 28, 3) := by decide +kernel
theorem dX6_greatest_18 : decode cX6_greatest 18 = .ok (.iload_n 3, 1) := by decide +kernel
theorem dX6_greatest_19 : decode cX6_greatest 19 = .ok (.ifCond .eq 24, 3) := by decide +kernel
theorem dX6_greatest_22 : decode cX6_greatest 22 = .ok (.aload_n 0, 1) := by decide +kernel
theorem dX6_greatest_23 : decode cX6_greatest 23 = .ok (.iconst 1, 1) := by decide +kernel
theorem dX6_greatest_24 : decode cX6_greatest 24 = .ok (.iconst 1, 1) := by decide +kernel
theorem dX6_greatest_25 : decode cX6_greatest 25 = .ok (.invokevirtual 44, 3) := by decide +kernel
theorem dX6_greatest_28 : decode cX6_greatest 28 = .ok (.aload_n 0, 1) := by decide +kernel
theorem dX6_greatest_29 : decode cX6_greatest 29 = .ok (.iconst 0, 1) := by decide +kernel
theorem dX6_greatest_30 : decode cX6_greatest 30 = .ok (.iconst 1, 1) := by decide +kernel
theorem dX6_greatest_31 : decode cX6_greatest 31 = .ok (.invokevirtual 44, 3) := by decide +kernel
theorem dX6_greatest_34 : decode cX6_greatest 34 = .ok (.if_icmp .le 7, 3) := by decide +kernel
theorem dX6_greatest_37 : decode cX6_greatest 37 = .ok (.iconst 1, 1) := by decide +kernel
theorem dX6_greatest_38 : decode cX6_greatest 38 = .ok (.goto 4, 3) := by decide +kernel
theorem dX6_greatest_41 : decode cX6_greatest 41 = .ok (.iconst 0, 1) := by decide +kernel
theorem dX6_greatest_42 : decode cX6_greatest 42 = .ok (.ireturn, 1) := by decide +kernel
theorem dX6_greatest_43 : decode cX6_greatest 43 = .ok (.iload_n 2, 1) := by decide +kernel
theorem dX6_greatest_44 : decode cX6_greatest 44 = .ok (.ifCond .eq 7, 3) := by decide +kernel
theorem dX6_greatest_47 : decode cX6_greatest 47 = .ok (.iconst 0, 1) := by decide +kernel
theorem dX6_greatest_48 : decode cX6_greatest 48 = .ok (.goto 13, 3) := by decide +kernel
theorem dX6_greatest_51 : decode cX6_greatest 51 = .ok (.iload_n 3, 1) := by decide +kernel
theorem dX6_greatest_52 : decode cX6_greatest 52 = .ok (.ifCond .eq 7, 3) := by decide +kernel
theorem dX6_greatest_55 : decode cX6_greatest 55 = .ok (.iconst 1, 1) := by decide +kernel
theorem dX6_greatest_56 : decode cX6_greatest 56 = .ok (.goto 5, 3) := by decide +kernel
theorem dX6_greatest_59 : decode cX6_greatest 59 = .ok (.bipush (-6), 2) := by decide +kernel
theorem dX6_greatest_61 : decode cX6_greatest 61 = .ok (.ireturn, 1) := by decide +kernel
theorem dX6_chosen_0 : decode cX6_chosen 0 = .ok (.aload_n 0, 1) := by decide +kernel
theorem dX6_chosen_1 : decode cX6_chosen 1 = .ok (.iconst 2, 1) := by decide +kernel
theorem dX6_chosen_2 : decode cX6_chosen 2 = .ok (.invokevirtual 65, 3) := by decide +kernel
theorem dX6_chosen_5 : decode cX6_chosen 5 = .ok (.istore_n 1, 1) := by decide +kernel
theorem dX6_chosen_6 : decode cX6_chosen 6 = .ok (.iload_n 1, 1) := by decide +kernel
theorem dX6_chosen_7 : decode cX6_chosen 7 = .ok (.bipush (-6), 2) := by decide +kernel
theorem dX6_chosen_9 : decode cX6_chosen 9 = .ok (.if_icmp .ne 11, 3) := by decide +kernel
theorem dX6_chosen_12 : decode cX6_chosen 12 = .ok (.aload_n 0, 1) := by decide +kernel
theorem dX6_chosen_13 : decode cX6_chosen 13 = .ok (.iconst 3, 1) := by decide +kernel
theorem dX6_chosen_14 : decode cX6_chosen 14 = .ok (.invokevirtual 65, 3) := by decide +kernel
theorem dX6_chosen_17 : decode cX6_chosen 17 = .ok (.goto 4, 3) := by decide +kernel
theorem dX6_chosen_20 : decode cX6_chosen 20 = .ok (.iload_n 1, 1) := by decide +kernel
theorem dX6_chosen_21 : decode cX6_chosen 21 = .ok (.istore_n 1, 1) := by decide +kernel
theorem dX6_chosen_22 : decode cX6_chosen 22 = .ok (.iload_n 1, 1) := by decide +kernel
theorem dX6_chosen_23 : decode cX6_chosen 23 = .ok (.bipush (-6), 2) := by decide +kernel
theorem dX6_chosen_25 : decode cX6_chosen 25 = .ok (.if_icmp .ne 7, 3) := by decide +kernel
theorem dX6_chosen_28 : decode cX6_chosen 28 = .ok (.iconst 2, 1) := by decide +kernel
theorem dX6_chosen_29 : decode cX6_chosen 29 = .ok (.goto 4, 3) := by decide +kernel
theorem dX6_chosen_32 : decode cX6_chosen 32 = .ok (.iload_n 1, 1) := by decide +kernel
theorem dX6_chosen_33 : decode cX6_chosen 33 = .ok (.ireturn, 1) := by decide +kernel
theorem dX6_remember_0 : decode cX6_remember 0 = .ok (.sipush 138, 3) := by decide +kernel
theorem dX6_remember_3 : decode cX6_remember 3 = .ok (.istore_n 2, 1) := by decide +kernel
theorem dX6_remember_4 : decode cX6_remember 4 = .ok (.iload_n 2, 1) := by decide +kernel
theorem dX6_remember_5 : decode cX6_remember 5 = .ok (.bipush 106, 2) := by decide +kernel
theorem dX6_remember_7 : decode cX6_remember 7 = .ok (.if_icmp .lt 23, 3) := by decide +kernel
theorem dX6_remember_10 : decode cX6_remember 10 = .ok (.aload_n 0, 1) := by decide +kernel
theorem dX6_remember_11 : decode cX6_remember 11 = .ok (.getfield 7, 3) := by decide +kernel
theorem dX6_remember_14 : decode cX6_remember 14 = .ok (.iload_n 2, 1) := by decide +kernel
theorem dX6_remember_15 : decode cX6_remember 15 = .ok (.aload_n 0, 1) := by decide +kernel
theorem dX6_remember_16 : decode cX6_remember 16 = .ok (.getfield 7, 3) := by decide +kernel
theorem dX6_remember_19 : decode cX6_remember 19 = .ok (.iload_n 2, 1) := by decide +kernel
theorem dX6_remember_20 : decode cX6_remember 20 = .ok (.iconst 3, 1) := by decide +kernel
theorem dX6_remember_21 : decode cX6_remember 21 = .ok (.isub, 1) := by decide +kernel
theorem dX6_remember_22 : decode cX6_remember 22 = .ok (.iaload, 1) := by decide +kernel
theorem dX6_remember_23 : decode cX6_remember 23 = .ok (.iastore, 1) := by decide +kernel
theorem dX6_remember_24 : decode cX6_remember 24 = .ok (.iinc 2 (-1), 3) := by decide +kernel
theorem dX6_remember_27 : decode cX6_remember 27 = .ok (.goto (-23), 3) := by decide +kernel
theorem dX6_remember_30 : decode cX6_remember 30 = .ok (.aload_n 0, 1) := by decide +kernel
theorem dX6_remember_31 : decode cX6_remember 31 = .ok (.getfield 7, 3) := by decide +kernel
theorem dX6_remember_34 : decode cX6_remember 34 = .ok (.bipush 103, 2) := by decide +kernel
theorem dX6_remember_36 : decode cX6_remember 36 = .ok (.aload_n 0, 1) := by decide +kernel
theorem dX6_remember_37 : decode cX6_remember 37 = .ok (.getfield 7, 3) := by decide +kernel
theorem dX6_remember_40 : decode cX6_remember 40 = .ok (.iconst 3, 1) := by decide +kernel
theorem dX6_remember_41 : decode cX6_remember 41 = .ok (.iaload, 1) := by decide +kernel
theorem dX6_remember_42 : decode cX6_remember 42 = .ok (.iastore, 1) := by decide +kernel
theorem dX6_remember_43 : decode cX6_remember 43 = .ok (.aload_n 0, 1) := by decide +kernel
theorem dX6_remember_44 : decode cX6_remember 44 = .ok (.getfield 7, 3) := by decide +kernel
theorem dX6_remember_47 : decode cX6_remember 47 = .ok (.bipush 104, 2) := by decide +kernel
theorem dX6_remember_49 : decode cX6_remember 49 = .ok (.iload_n 1, 1) := by decide +kernel
theorem dX6_remember_50 : decode cX6_remember 50 = .ok (.iastore, 1) := by decide +kernel
theorem dX6_remember_51 : decode cX6_remember 51 = .ok (.aload_n 0, 1) := by decide +kernel
theorem dX6_remember_52 : decode cX6_remember 52 = .ok (.getfield 7, 3) := by decide +kernel
theorem dX6_remember_55 : decode cX6_remember 55 = .ok (.bipush 105, 2) := by decide +kernel
theorem dX6_remember_57 : decode cX6_remember 57 = .ok (.aload_n 0, 1) := by decide +kernel
theorem dX6_remember_58 : decode cX6_remember 58 = .ok (.getfield 7, 3) := by decide +kernel
theorem dX6_remember_61 : decode cX6_remember 61 = .ok (.bipush 9, 2) := by decide +kernel
theorem dX6_remember_63 : decode cX6_remember 63 = .ok (.iaload, 1) := by decide +kernel
theorem dX6_remember_64 : decode cX6_remember 64 = .ok (.iastore, 1) := by decide +kernel
theorem dX6_remember_65 : decode cX6_remember 65 = .ok (.aload_n 0, 1) := by decide +kernel
theorem dX6_remember_66 : decode cX6_remember 66 = .ok (.getfield 7, 3) := by decide +kernel
theorem dX6_remember_69 : decode cX6_remember 69 = .ok (.bipush 10, 2) := by decide +kernel
theorem dX6_remember_71 : decode cX6_remember 71 = .ok (.dup2, 1) := by decide +kernel
theorem dX6_remember_72 : decode cX6_remember 72 = .ok (.iaload, 1) := by decide +kernel
theorem dX6_remember_73 : decode cX6_remember 73 = .ok (.aload_n 0, 1) := by decide +kernel
theorem dX6_remember_74 : decode cX6_remember 74 = .ok (.getfield 7, 3) := by decide +kernel
theorem dX6_remember_77 : decode cX6_remember 77 = .ok (.bipush 10, 2) := by decide +kernel
theorem dX6_remember_79 : decode cX6_remember 79 = .ok (.iaload, 1) := by decide +kernel
theorem dX6_remember_80 : decode cX6_remember 80 = .ok (.bipush 12, 2) := by decide +kernel
theorem dX6_remember_82 : decode cX6_remember 82 = .ok (.if_icmp .ge 7, 3) := by decide +kernel
theorem dX6_remember_85 : decode cX6_remember 85 = .ok (.iconst 1, 1) := by decide +kernel
theorem dX6_remember_86 : decode cX6_remember 86 = .ok (.goto 4, 3) := by decide +kernel
theorem dX6_remember_89 : decode cX6_remember 89 = .ok (.iconst 0, 1) := by decide +kernel
theorem dX6_remember_90 : decode cX6_remember 90 = .ok (.iadd, 1) := by decide +kernel
theorem dX6_remember_91 : decode cX6_remember 91 = .ok (.iastore, 1) := by decide +kernel
theorem dX6_remember_92 : decode cX6_remember 92 = .ok (.return_, 1) := by decide +kernel
theorem dX6_starts_0 : decode cX6_starts 0 = .ok (.iconst 0, 1) := by decide +kernel
theorem dX6_starts_1 : decode cX6_starts 1 = .ok (.istore_n 2, 1) := by decide +kernel
theorem dX6_starts_2 : decode cX6_starts 2 = .ok (.iload_n 2, 1) := by decide +kernel
theorem dX6_starts_3 : decode cX6_starts 3 = .ok (.iconst 2, 1) := by decide +kernel
theorem dX6_starts_4 : decode cX6_starts 4 = .ok (.if_icmp .ge 55, 3) := by decide +kernel
theorem dX6_starts_7 : decode cX6_starts 7 = .ok (.aload_n 0, 1) := by decide +kernel
theorem dX6_starts_8 : decode cX6_starts 8 = .ok (.iload_n 2, 1) := by decide +kernel
theorem dX6_starts_9 : decode cX6_starts 9 = .ok (.iconst 2, 1) := by decide +kernel
theorem dX6_starts_10 : decode cX6_starts 10 = .ok (.invokevirtual 59, 3) := by decide +kernel
theorem dX6_starts_13 : decode cX6_starts 13 = .ok (.ifCond .eq 19, 3) := by decide +kernel
theorem dX6_starts_16 : decode cX6_starts 16 = .ok (.aload_n 0, 1) := by decide +kernel
theorem dX6_starts_17 : decode cX6_starts 17 = .ok (.iload_n 2, 1) := by decide +kernel
theorem dX6_starts_18 : decode cX6_starts 18 = .ok (.iconst 4, 1) := by decide +kernel
theorem dX6_starts_19 : decode cX6_starts 19 = .ok (.invokevirtual 44, 3) := by decide +kernel
theorem dX6_starts_22 : decode cX6_starts 22 = .ok (.ifCond .ne 10, 3) := by decide +kernel
theorem dX6_starts_25 : decode cX6_starts 25 = .ok (.aload_n 0, 1) := by decide +kernel
theorem dX6_starts_26 : decode cX6_starts 26 = .ok (.iload_n 2, 1) := by decide +kernel
theorem dX6_starts_27 : decode cX6_starts 27 = .ok (.iconst 0, 1) := by decide +kernel
theorem dX6_starts_28 : decode cX6_starts 28 = .ok (.iconst 4, 1) := by decide +kernel
theorem dX6_starts_29 : decode cX6_starts 29 = .ok (.invokevirtual 28, 3) := by decide +kernel
theorem dX6_starts_32 : decode cX6_starts 32 = .ok (.iload_n 1, 1) := by decide +kernel
theorem dX6_starts_33 : decode cX6_starts 33 = .ok (.iconst 2, 1) := by decide +kernel
theorem dX6_starts_34 : decode cX6_starts 34 = .ok (.if_icmp .ne 19, 3) := by decide +kernel
theorem dX6_starts_37 : decode cX6_starts 37 = .ok (.aload_n 0, 1) := by decide +kernel
theorem dX6_starts_38 : decode cX6_starts 38 = .ok (.iload_n 2, 1) := by decide +kernel
theorem dX6_starts_39 : decode cX6_starts 39 = .ok (.iconst 1, 1) := by decide +kernel
theorem dX6_starts_40 : decode cX6_starts 40 = .ok (.invokevirtual 59, 3) := by decide +kernel
theorem dX6_starts_43 : decode cX6_starts 43 = .ok (.ifCond .eq 10, 3) := by decide +kernel
theorem dX6_starts_46 : decode cX6_starts 46 = .ok (.aload_n 0, 1) := by decide +kernel
theorem dX6_starts_47 : decode cX6_starts 47 = .ok (.iload_n 2, 1) := by decide +kernel
theorem dX6_starts_48 : decode cX6_starts 48 = .ok (.iconst 0, 1) := by decide +kernel
theorem dX6_starts_49 : decode cX6_starts 49 = .ok (.iconst 0, 1) := by decide +kernel
theorem dX6_starts_50 : decode cX6_starts 50 = .ok (.invokevirtual 28, 3) := by decide +kernel
theorem dX6_starts_53 : decode cX6_starts 53 = .ok (.iinc 2 1, 3) := by decide +kernel
theorem dX6_starts_56 : decode cX6_starts 56 = .ok (.goto (-54), 3) := by decide +kernel
theorem dX6_starts_59 : decode cX6_starts 59 = .ok (.aload_n 0, 1) := by decide +kernel
theorem dX6_starts_60 : decode cX6_starts 60 = .ok (.invokevirtual 68, 3) := by decide +kernel
theorem dX6_starts_63 : decode cX6_starts 63 = .ok (.istore_n 2, 1) := by decide +kernel
theorem dX6_starts_64 : decode cX6_starts 64 = .ok (.iload_n 2, 1) := by decide +kernel
theorem dX6_starts_65 : decode cX6_starts 65 = .ok (.iconst 2, 1) := by decide +kernel
theorem dX6_starts_66 : decode cX6_starts 66 = .ok (.if_icmp .eq 26, 3) := by decide +kernel
theorem dX6_starts_69 : decode cX6_starts 69 = .ok (.aload_n 0, 1) := by decide +kernel
theorem dX6_starts_70 : decode cX6_starts 70 = .ok (.iload_n 2, 1) := by decide +kernel
theorem dX6_starts_71 : decode cX6_starts 71 = .ok (.invokevirtual 72, 3) := by decide +kernel
theorem dX6_starts_74 : decode cX6_starts 74 = .ok (.ifCond .ne 18, 3) := by decide +kernel
theorem dX6_starts_77 : decode cX6_starts 77 = .ok (.aload_n 0, 1) := by decide +kernel
theorem dX6_starts_78 : decode cX6_starts 78 = .ok (.iload_n 2, 1) := by decide +kernel
theorem dX6_starts_79 : decode cX6_starts 79 = .ok (.iconst 0, 1) := by decide +kernel
theorem dX6_starts_80 : decode cX6_starts 80 = .ok (.iconst 4, 1) := by decide +kernel
theorem dX6_starts_81 : decode cX6_starts 81 = .ok (.invokevirtual 28, 3) := by decide +kernel
theorem dX6_starts_84 : decode cX6_starts 84 = .ok (.aload_n 0, 1) := by decide +kernel
theorem dX6_starts_85 : decode cX6_starts 85 = .ok (.invokevirtual 68, 3) := by decide +kernel
theorem dX6_starts_88 : decode cX6_starts 88 = .ok (.istore_n 2, 1) := by decide +kernel
theorem dX6_starts_89 : decode cX6_starts 89 = .ok (.goto (-25), 3) := by decide +kernel
theorem dX6_starts_92 : decode cX6_starts 92 = .ok (.iload_n 2, 1) := by decide +kernel
theorem dX6_starts_93 : decode cX6_starts 93 = .ok (.iconst 2, 1) := by decide +kernel
theorem dX6_starts_94 : decode cX6_starts 94 = .ok (.if_icmp .eq 26, 3) := by decide +kernel
theorem dX6_starts_97 : decode cX6_starts 97 = .ok (.aload_n 0, 1) := by decide +kernel
theorem dX6_starts_98 : decode cX6_starts 98 = .ok (.iload_n 2, 1) := by decide +kernel
theorem dX6_starts_99 : decode cX6_starts 99 = .ok (.iconst 2, 1) := by decide +kernel
theorem dX6_starts_100 : decode cX6_starts 100 = .ok (.invokevirtual 59, 3) := by decide +kernel
theorem dX6_starts_103 : decode cX6_starts 103 = .ok (.ifCond .eq 17, 3) := by decide +kernel
theorem dX6_starts_106 : decode cX6_starts 106 = .ok (.aload_n 0, 1) := by decide +kernel
theorem dX6_starts_107 : decode cX6_starts 107 = .ok (.iload_n 2, 1) := by decide +kernel
theorem dX6_starts_108 : decode cX6_starts 108 = .ok (.iconst 4, 1) := by decide +kernel
theorem dX6_starts_109 : decode cX6_starts 109 = .ok (.aload_n 0, 1) := by decide +kernel
theorem dX6_starts_110 : decode cX6_starts 110 = .ok (.iload_n 2, 1) := by decide +kernel
theorem dX6_starts_111 : decode cX6_starts 111 = .ok (.iconst 4, 1) := by decide +kernel
theorem dX6_starts_112 : decode cX6_starts 112 = .ok (.invokevirtual 44, 3) := by decide +kernel
theorem dX6_starts_115 : decode cX6_starts 115 = .ok (.iconst 1, 1) := by decide +kernel
theorem dX6_starts_116 : decode cX6_starts 116 = .ok (.isub, 1) := by decide +kernel
theorem dX6_starts_117 : decode cX6_starts 117 = .ok (.invokevirtual 28, 3) := by decide +kernel
theorem dX6_starts_120 : decode cX6_starts 120 = .ok (.aload_n 0, 1) := by decide +kernel
theorem dX6_starts_121 : decode cX6_starts 121 = .ok (.getfield 7, 3) := by decide +kernel
theorem dX6_starts_124 : decode cX6_starts 124 = .ok (.iconst 3, 1) := by decide +kernel
theorem dX6_starts_125 : decode cX6_starts 125 = .ok (.iload_n 2, 1) := by decide +kernel
theorem dX6_starts_126 : decode cX6_starts 126 = .ok (.iastore, 1) := by decide +kernel
theorem dX6_starts_127 : decode cX6_starts 127 = .ok (.aload_n 0, 1) := by decide +kernel
theorem dX6_starts_128 : decode cX6_starts 128 = .ok (.getfield 7, 3) := by decide +kernel
theorem dX6_starts_131 : decode cX6_starts 131 = .ok (.iconst 4, 1) := by decide +kernel
theorem dX6_starts_132 : decode cX6_starts 132 = .ok (.iconst 0, 1) := by decide +kernel
theorem dX6_starts_133 : decode cX6_starts 133 = .ok (.iastore, 1) := by decide +kernel
theorem dX6_starts_134 : decode cX6_starts 134 = .ok (.aload_n 0, 1) := by decide +kernel
theorem dX6_starts_135 : decode cX6_starts 135 = .ok (.getfield 7, 3) := by decide +kernel
theorem dX6_starts_138 : decode cX6_starts 138 = .ok (.iconst 5, 1) := by decide +kernel
theorem dX6_starts_139 : decode cX6_starts 139 = .ok (.iconst 0, 1) := by decide +kernel
theorem dX6_starts_140 : decode cX6_starts 140 = .ok (.iastore, 1) := by decide +kernel
theorem dX6_starts_141 : decode cX6_starts 141 = .ok (.aload_n 0, 1) := by decide +kernel
theorem dX6_starts_142 : decode cX6_starts 142 = .ok (.getfield 7, 3) := by decide +kernel
theorem dX6_starts_145 : decode cX6_starts 145 = .ok (.bipush 7, 2) := by decide +kernel
theorem dX6_starts_147 : decode cX6_starts 147 = .ok (.dup2, 1) := by decide +kernel
theorem dX6_starts_148 : decode cX6_starts 148 = .ok (.iaload, 1) := by decide +kernel
theorem dX6_starts_149 : decode cX6_starts 149 = .ok (.iconst 1, 1) := by decide +kernel
theorem dX6_starts_150 : decode cX6_starts 150 = .ok (.iadd, 1) := by decide +kernel
theorem dX6_starts_151 : decode cX6_starts 151 = .ok (.iastore, 1) := by decide +kernel
theorem dX6_starts_152 : decode cX6_starts 152 = .ok (.aload_n 0, 1) := by decide +kernel
theorem dX6_starts_153 : decode cX6_starts 153 = .ok (.getfield 7, 3) := by decide +kernel
theorem dX6_starts_156 : decode cX6_starts 156 = .ok (.bipush 8, 2) := by decide +kernel
theorem dX6_starts_158 : decode cX6_starts 158 = .ok (.dup2, 1) := by decide +kernel
theorem dX6_starts_159 : decode cX6_starts 159 = .ok (.iaload, 1) := by decide +kernel
theorem dX6_starts_160 : decode cX6_starts 160 = .ok (.iload_n 1, 1) := by decide +kernel
theorem dX6_starts_161 : decode cX6_starts 161 = .ok (.iconst 1, 1) := by decide +kernel
theorem dX6_starts_162 : decode cX6_starts 162 = .ok (.if_icmp .ne 7, 3) := by decide +kernel
theorem dX6_starts_165 : decode cX6_starts 165 = .ok (.iconst 1, 1) := by decide +kernel
theorem dX6_starts_166 : decode cX6_starts 166 = .ok (.goto 4, 3) := by decide +kernel
theorem dX6_starts_169 : decode cX6_starts 169 = .ok (.iconst 0, 1) := by decide +kernel
theorem dX6_starts_170 : decode cX6_starts 170 = .ok (.iadd, 1) := by decide +kernel
theorem dX6_starts_171 : decode cX6_starts 171 = .ok (.iastore, 1) := by decide +kernel
theorem dX6_starts_172 : decode cX6_starts 172 = .ok (.aload_n 0, 1) := by decide +kernel
theorem dX6_starts_173 : decode cX6_starts 173 = .ok (.iload_n 1, 1) := by decide +kernel
theorem dX6_starts_174 : decode cX6_starts 174 = .ok (.invokevirtual 76, 3) := by decide +kernel
theorem dX6_starts_177 : decode cX6_starts 177 = .ok (.return_, 1) := by decide +kernel
theorem dX6_isOnTrial_0 : decode cX6_isOnTrial 0 = .ok (.aload_n 0, 1) := by decide +kernel
theorem dX6_isOnTrial_1 : decode cX6_isOnTrial 1 = .ok (.getfield 7, 3) := by decide +kernel
theorem dX6_isOnTrial_4 : decode cX6_isOnTrial 4 = .ok (.iconst 3, 1) := by decide +kernel
theorem dX6_isOnTrial_5 : decode cX6_isOnTrial 5 = .ok (.iaload, 1) := by decide +kernel
theorem dX6_isOnTrial_6 : decode cX6_isOnTrial 6 = .ok (.iconst 2, 1) := by decide +kernel
theorem dX6_isOnTrial_7 : decode cX6_isOnTrial 7 = .ok (.if_icmp .eq 21, 3) := by decide +kernel
theorem dX6_isOnTrial_10 : decode cX6_isOnTrial 10 = .ok (.aload_n 0, 1) := by decide +kernel
theorem dX6_isOnTrial_11 : decode cX6_isOnTrial 11 = .ok (.aload_n 0, 1) := by decide +kernel
theorem dX6_isOnTrial_12 : decode cX6_isOnTrial 12 = .ok (.getfield 7, 3) := by decide +kernel
theorem dX6_isOnTrial_15 : decode cX6_isOnTrial 15 = .ok (.iconst 3, 1) := by decide +kernel
theorem dX6_isOnTrial_16 : decode cX6_isOnTrial 16 = .ok (.iaload, 1) := by decide +kernel
theorem dX6_isOnTrial_17 : decode cX6_isOnTrial 17 = .ok (.iconst 2, 1) := by decide +kernel
theorem dX6_isOnTrial_18 : decode cX6_isOnTrial 18 = .ok (.invokevirtual 59, 3) := by decide +kernel
theorem dX6_isOnTrial_21 : decode cX6_isOnTrial 21 = .ok (.ifCond .eq 7, 3) := by decide +kernel
theorem dX6_isOnTrial_24 : decode cX6_isOnTrial 24 = .ok (.iconst 1, 1) := by decide +kernel
theorem dX6_isOnTrial_25 : decode cX6_isOnTrial 25 = .ok (.goto 4, 3) := by decide +kernel
theorem dX6_isOnTrial_28 : decode cX6_isOnTrial 28 = .ok (.iconst 0, 1) := by decide +kernel
theorem dX6_isOnTrial_29 : decode cX6_isOnTrial 29 = .ok (.ireturn, 1) := by decide +kernel
theorem dX6_tells_0 : decode cX6_tells 0 = .ok (.aload_n 0, 1) := by decide +kernel
theorem dX6_tells_1 : decode cX6_tells 1 = .ok (.aload_n 0, 1) := by decide +kernel
theorem dX6_tells_2 : decode cX6_tells 2 = .ok (.getfield 7, 3) := by decide +kernel
theorem dX6_tells_5 : decode cX6_tells 5 = .ok (.iconst 3, 1) := by decide +kernel
theorem dX6_tells_6 : decode cX6_tells 6 = .ok (.iaload, 1) := by decide +kernel
theorem dX6_tells_7 : decode cX6_tells 7 = .ok (.iload_n 1, 1) := by decide +kernel
theorem dX6_tells_8 : decode cX6_tells 8 = .ok (.invokevirtual 48, 3) := by decide +kernel
theorem dX6_tells_11 : decode cX6_tells 11 = .ok (.istore_n 2, 1) := by decide +kernel
theorem dX6_tells_12 : decode cX6_tells 12 = .ok (.iload_n 2, 1) := by decide +kernel
theorem dX6_tells_13 : decode cX6_tells 13 = .ok (.ifCond .le 17, 3) := by decide +kernel
theorem dX6_tells_16 : decode cX6_tells 16 = .ok (.iload_n 2, 1) := by decide +kernel
theorem dX6_tells_17 : decode cX6_tells 17 = .ok (.aload_n 0, 1) := by decide +kernel
theorem dX6_tells_18 : decode cX6_tells 18 = .ok (.getfield 7, 3) := by decide +kernel
theorem dX6_tells_21 : decode cX6_tells 21 = .ok (.iconst 4, 1) := by decide +kernel
theorem dX6_tells_22 : decode cX6_tells 22 = .ok (.iaload, 1) := by decide +kernel
theorem dX6_tells_23 : decode cX6_tells 23 = .ok (.if_icmp .ne 7, 3) := by decide +kernel
theorem dX6_tells_26 : decode cX6_tells 26 = .ok (.iconst 1, 1) := by decide +kernel
theorem dX6_tells_27 : decode cX6_tells 27 = .ok (.goto 4, 3) := by decide +kernel
theorem dX6_tells_30 : decode cX6_tells 30 = .ok (.iconst 0, 1) := by decide +kernel
theorem dX6_tells_31 : decode cX6_tells 31 = .ok (.ireturn, 1) := by decide +kernel
theorem dX6_tick_0 : decode cX6_tick 0 = .ok (.aload_n 0, 1) := by decide +kernel
theorem dX6_tick_1 : decode cX6_tick 1 = .ok (.getfield 7, 3) := by decide +kernel
theorem dX6_tick_4 : decode cX6_tick 4 = .ok (.bipush 9, 2) := by decide +kernel
theorem dX6_tick_6 : decode cX6_tick 6 = .ok (.dup2, 1) := by decide +kernel
theorem dX6_tick_7 : decode cX6_tick 7 = .ok (.iaload, 1) := by decide +kernel
theorem dX6_tick_8 : decode cX6_tick 8 = .ok (.iconst 1, 1) := by decide +kernel
theorem dX6_tick_9 : decode cX6_tick 9 = .ok (.iadd, 1) := by decide +kernel
theorem dX6_tick_10 : decode cX6_tick 10 = .ok (.iastore, 1) := by decide +kernel
theorem dX6_tick_11 : decode cX6_tick 11 = .ok (.aload_n 0, 1) := by decide +kernel
theorem dX6_tick_12 : decode cX6_tick 12 = .ok (.getfield 7, 3) := by decide +kernel
theorem dX6_tick_15 : decode cX6_tick 15 = .ok (.iconst 4, 1) := by decide +kernel
theorem dX6_tick_16 : decode cX6_tick 16 = .ok (.dup2, 1) := by decide +kernel
theorem dX6_tick_17 : decode cX6_tick 17 = .ok (.iaload, 1) := by decide +kernel
theorem dX6_tick_18 : decode cX6_tick 18 = .ok (.iconst 1, 1) := by decide +kernel
theorem dX6_tick_19 : decode cX6_tick 19 = .ok (.iadd, 1) := by decide +kernel
theorem dX6_tick_20 : decode cX6_tick 20 = .ok (.iastore, 1) := by decide +kernel
theorem dX6_tick_21 : decode cX6_tick 21 = .ok (.aload_n 0, 1) := by decide +kernel
theorem dX6_tick_22 : decode cX6_tick 22 = .ok (.getfield 7, 3) := by decide +kernel
theorem dX6_tick_25 : decode cX6_tick 25 = .ok (.iconst 5, 1) := by decide +kernel
theorem dX6_tick_26 : decode cX6_tick 26 = .ok (.iaload, 1) := by decide +kernel
theorem dX6_tick_27 : decode cX6_tick 27 = .ok (.ifCond .gt 11, 3) := by decide +kernel
theorem dX6_tick_30 : decode cX6_tick 30 = .ok (.aload_n 0, 1) := by decide +kernel
theorem dX6_tick_31 : decode cX6_tick 31 = .ok (.iconst 0, 1) := by decide +kernel
theorem dX6_tick_32 : decode cX6_tick 32 = .ok (.invokevirtual 80, 3) := by decide +kernel
theorem dX6_tick_35 : decode cX6_tick 35 = .ok (.ifCond .eq 13, 3) := by decide +kernel
theorem dX6_tick_38 : decode cX6_tick 38 = .ok (.aload_n 0, 1) := by decide +kernel
theorem dX6_tick_39 : decode cX6_tick 39 = .ok (.getfield 7, 3) := by decide +kernel
theorem dX6_tick_42 : decode cX6_tick 42 = .ok (.iconst 5, 1) := by decide +kernel
theorem dX6_tick_43 : decode cX6_tick 43 = .ok (.dup2, 1) := by decide +kernel
theorem dX6_tick_44 : decode cX6_tick 44 = .ok (.iaload, 1) := by decide +kernel
theorem dX6_tick_45 : decode cX6_tick 45 = .ok (.iconst 1, 1) := by decide +kernel
theorem dX6_tick_46 : decode cX6_tick 46 = .ok (.iadd, 1) := by decide +kernel
theorem dX6_tick_47 : decode cX6_tick 47 = .ok (.iastore, 1) := by decide +kernel
theorem dX6_tick_48 : decode cX6_tick 48 = .ok (.aload_n 0, 1) := by decide +kernel
theorem dX6_tick_49 : decode cX6_tick 49 = .ok (.getfield 7, 3) := by decide +kernel
theorem dX6_tick_52 : decode cX6_tick 52 = .ok (.iconst 5, 1) := by decide +kernel
theorem dX6_tick_53 : decode cX6_tick 53 = .ok (.iaload, 1) := by decide +kernel
theorem dX6_tick_54 : decode cX6_tick 54 = .ok (.ifCond .ne 71, 3) := by decide +kernel
theorem dX6_tick_57 : decode cX6_tick 57 = .ok (.aload_n 0, 1) := by decide +kernel
theorem dX6_tick_58 : decode cX6_tick 58 = .ok (.iconst 1, 1) := by decide +kernel
theorem dX6_tick_59 : decode cX6_tick 59 = .ok (.invokevirtual 80, 3) := by decide +kernel
theorem dX6_tick_62 : decode cX6_tick 62 = .ok (.ifCond .eq 63, 3) := by decide +kernel
theorem dX6_tick_65 : decode cX6_tick 65 = .ok (.aload_n 0, 1) := by decide +kernel
theorem dX6_tick_66 : decode cX6_tick 66 = .ok (.invokevirtual 83, 3) := by decide +kernel
theorem dX6_tick_69 : decode cX6_tick 69 = .ok (.ifCond .eq 56, 3) := by decide +kernel
theorem dX6_tick_72 : decode cX6_tick 72 = .ok (.aload_n 0, 1) := by decide +kernel
theorem dX6_tick_73 : decode cX6_tick 73 = .ok (.getfield 7, 3) := by decide +kernel
theorem dX6_tick_76 : decode cX6_tick 76 = .ok (.iconst 3, 1) := by decide +kernel
theorem dX6_tick_77 : decode cX6_tick 77 = .ok (.iaload, 1) := by decide +kernel
theorem dX6_tick_78 : decode cX6_tick 78 = .ok (.istore_n 1, 1) := by decide +kernel
theorem dX6_tick_79 : decode cX6_tick 79 = .ok (.aload_n 0, 1) := by decide +kernel
theorem dX6_tick_80 : decode cX6_tick 80 = .ok (.iload_n 1, 1) := by decide +kernel
theorem dX6_tick_81 : decode cX6_tick 81 = .ok (.iconst 0, 1) := by decide +kernel
theorem dX6_tick_82 : decode cX6_tick 82 = .ok (.iconst 3, 1) := by decide +kernel
theorem dX6_tick_83 : decode cX6_tick 83 = .ok (.invokevirtual 28, 3) := by decide +kernel
theorem dX6_tick_86 : decode cX6_tick 86 = .ok (.aload_n 0, 1) := by decide +kernel
theorem dX6_tick_87 : decode cX6_tick 87 = .ok (.getfield 7, 3) := by decide +kernel
theorem dX6_tick_90 : decode cX6_tick 90 = .ok (.bipush 6, 2) := by decide +kernel
theorem dX6_tick_92 : decode cX6_tick 92 = .ok (.aload_n 0, 1) := by decide +kernel
theorem dX6_tick_93 : decode cX6_tick 93 = .ok (.iload_n 1, 1) := by decide +kernel
theorem dX6_tick_94 : decode cX6_tick 94 = .ok (.iconst 1, 1) := by decide +kernel
theorem dX6_tick_95 : decode cX6_tick 95 = .ok (.invokevirtual 44, 3) := by decide +kernel
theorem dX6_tick_98 : decode cX6_tick 98 = .ok (.aload_n 0, 1) := by decide +kernel
theorem dX6_tick_99 : decode cX6_tick 99 = .ok (.getfield 7, 3) := by decide +kernel
theorem dX6_tick_102 : decode cX6_tick 102 = .ok (.bipush 6, 2) := by decide +kernel
theorem dX6_tick_104 : decode cX6_tick 104 = .ok (.iaload, 1) := by decide +kernel
theorem dX6_tick_105 : decode cX6_tick 105 = .ok (.if_icmp .le 12, 3) := by decide +kernel
theorem dX6_tick_108 : decode cX6_tick 108 = .ok (.aload_n 0, 1) := by decide +kernel
theorem dX6_tick_109 : decode cX6_tick 109 = .ok (.iload_n 1, 1) := by decide +kernel
theorem dX6_tick_110 : decode cX6_tick 110 = .ok (.iconst 1, 1) := by decide +kernel
theorem dX6_tick_111 : decode cX6_tick 111 = .ok (.invokevirtual 44, 3) := by decide +kernel
theorem dX6_tick_114 : decode cX6_tick 114 = .ok (.goto 10, 3) := by decide +kernel
theorem dX6_tick_117 : decode cX6_tick 117 = .ok (.aload_n 0, 1) := by decide +kernel
theorem dX6_tick_118 : decode cX6_tick 118 = .ok (.getfield 7, 3) := by decide +kernel
theorem dX6_tick_121 : decode cX6_tick 121 = .ok (.bipush 6, 2) := by decide +kernel
theorem dX6_tick_123 : decode cX6_tick 123 = .ok (.iaload, 1) := by decide +kernel
theorem dX6_tick_124 : decode cX6_tick 124 = .ok (.iastore, 1) := by decide +kernel
theorem dX6_tick_125 : decode cX6_tick 125 = .ok (.aload_n 0, 1) := by decide +kernel
theorem dX6_tick_126 : decode cX6_tick 126 = .ok (.getfield 7, 3) := by decide +kernel
theorem dX6_tick_129 : decode cX6_tick 129 = .ok (.iconst 5, 1) := by decide +kernel
theorem dX6_tick_130 : decode cX6_tick 130 = .ok (.iaload, 1) := by decide +kernel
theorem dX6_tick_131 : decode cX6_tick 131 = .ok (.aload_n 0, 1) := by decide +kernel
theorem dX6_tick_132 : decode cX6_tick 132 = .ok (.getfield 7, 3) := by decide +kernel
theorem dX6_tick_135 : decode cX6_tick 135 = .ok (.iconst 1, 1) := by decide +kernel
theorem dX6_tick_136 : decode cX6_tick 136 = .ok (.iaload, 1) := by decide +kernel
theorem dX6_tick_137 : decode cX6_tick 137 = .ok (.if_icmp .ge 28, 3) := by decide +kernel
theorem dX6_tick_140 : decode cX6_tick 140 = .ok (.aload_n 0, 1) := by decide +kernel
theorem dX6_tick_141 : decode cX6_tick 141 = .ok (.invokevirtual 83, 3) := by decide +kernel
theorem dX6_tick_144 : decode cX6_tick 144 = .ok (.ifCond .eq 25, 3) := by decide +kernel
theorem dX6_tick_147 : decode cX6_tick 147 = .ok (.aload_n 0, 1) := by decide +kernel
theorem dX6_tick_148 : decode cX6_tick 148 = .ok (.getfield 7, 3) := by decide +kernel
theorem dX6_tick_151 : decode cX6_tick 151 = .ok (.iconst 4, 1) := by decide +kernel
theorem dX6_tick_152 : decode cX6_tick 152 = .ok (.iaload, 1) := by decide +kernel
theorem dX6_tick_153 : decode cX6_tick 153 = .ok (.bipush 10, 2) := by decide +kernel
theorem dX6_tick_155 : decode cX6_tick 155 = .ok (.aload_n 0, 1) := by decide +kernel
theorem dX6_tick_156 : decode cX6_tick 156 = .ok (.getfield 7, 3) := by decide +kernel
theorem dX6_tick_159 : decode cX6_tick 159 = .ok (.iconst 1, 1) := by decide +kernel
theorem dX6_tick_160 : decode cX6_tick 160 = .ok (.iaload, 1) := by decide +kernel
theorem dX6_tick_161 : decode cX6_tick 161 = .ok (.imul, 1) := by decide +kernel
theorem dX6_tick_162 : decode cX6_tick 162 = .ok (.if_icmp .lt 7, 3) := by decide +kernel
theorem dX6_tick_165 : decode cX6_tick 165 = .ok (.iconst 1, 1) := by decide +kernel
theorem dX6_tick_166 : decode cX6_tick 166 = .ok (.goto 4, 3) := by decide +kernel
theorem dX6_tick_169 : decode cX6_tick 169 = .ok (.iconst 0, 1) := by decide +kernel
theorem dX6_tick_170 : decode cX6_tick 170 = .ok (.istore_n 1, 1) := by decide +kernel
theorem dX6_tick_171 : decode cX6_tick 171 = .ok (.iload_n 1, 1) := by decide +kernel
theorem dX6_tick_172 : decode cX6_tick 172 = .ok (.ifCond .eq 8, 3) := by decide +kernel
theorem dX6_tick_175 : decode cX6_tick 175 = .ok (.aload_n 0, 1) := by decide +kernel
theorem dX6_tick_176 : decode cX6_tick 176 = .ok (.iconst 1, 1) := by decide +kernel
theorem dX6_tick_177 : decode cX6_tick 177 = .ok (.invokevirtual 87, 3) := by decide +kernel
theorem dX6_tick_180 : decode cX6_tick 180 = .ok (.iload_n 1, 1) := by decide +kernel
theorem dX6_tick_181 : decode cX6_tick 181 = .ok (.ireturn, 1) := by decide +kernel
theorem dX6_passes_0 : decode cX6_passes 0 = .ok (.iconst 0, 1) := by decide +kernel
theorem dX6_passes_1 : decode cX6_passes 1 = .ok (.istore_n 2, 1) := by decide +kernel
theorem dX6_passes_2 : decode cX6_passes 2 = .ok (.iconst 0, 1) := by decide +kernel
theorem dX6_passes_3 : decode cX6_passes 3 = .ok (.istore_n 3, 1) := by decide +kernel
theorem dX6_passes_4 : decode cX6_passes 4 = .ok (.iload_n 3, 1) := by decide +kernel
theorem dX6_passes_5 : decode cX6_passes 5 = .ok (.iload_n 1, 1) := by decide +kernel
theorem dX6_passes_6 : decode cX6_passes 6 = .ok (.if_icmp .ge 24, 3) := by decide +kernel
theorem dX6_passes_9 : decode cX6_passes 9 = .ok (.iload_n 2, 1) := by decide +kernel
theorem dX6_passes_10 : decode cX6_passes 10 = .ok (.aload_n 0, 1) := by decide +kernel
theorem dX6_passes_11 : decode cX6_passes 11 = .ok (.invokevirtual 90, 3) := by decide +kernel
theorem dX6_passes_14 : decode cX6_passes 14 = .ok (.ifCond .eq 7, 3) := by decide +kernel
theorem dX6_passes_17 : decode cX6_passes 17 = .ok (.iconst 1, 1) := by decide +kernel
theorem dX6_passes_18 : decode cX6_passes 18 = .ok (.goto 4, 3) := by decide +kernel
theorem dX6_passes_21 : decode cX6_passes 21 = .ok (.iconst 0, 1) := by decide +kernel
theorem dX6_passes_22 : decode cX6_passes 22 = .ok (.iadd, 1) := by decide +kernel
theorem dX6_passes_23 : decode cX6_passes 23 = .ok (.istore_n 2, 1) := by decide +kernel
theorem dX6_passes_24 : decode cX6_passes 24 = .ok (.iinc 3 1, 3) := by decide +kernel
theorem dX6_passes_27 : decode cX6_passes 27 = .ok (.goto (-23), 3) := by decide +kernel
theorem dX6_passes_30 : decode cX6_passes 30 = .ok (.iload_n 2, 1) := by decide +kernel
theorem dX6_passes_31 : decode cX6_passes 31 = .ok (.ireturn, 1) := by decide +kernel
theorem dX6_isValue_0 : decode cX6_isValue 0 = .ok (.iload_n 0, 1) := by decide +kernel
theorem dX6_isValue_1 : decode cX6_isValue 1 = .ok (.ifCond .ne 13, 3) := by decide +kernel
theorem dX6_isValue_4 : decode cX6_isValue 4 = .ok (.iload_n 1, 1) := by decide +kernel
theorem dX6_isValue_5 : decode cX6_isValue 5 = .ok (.iconst 1, 1) := by decide +kernel
theorem dX6_isValue_6 : decode cX6_isValue 6 = .ok (.bipush 9, 2) := by decide +kernel
theorem dX6_isValue_8 : decode cX6_isValue 8 = .ok (.invokestatic 40, 3) := by decide +kernel
theorem dX6_isValue_11 : decode cX6_isValue 11 = .ok (.goto 38, 3) := by decide +kernel
theorem dX6_isValue_14 : decode cX6_isValue 14 = .ok (.iload_n 0, 1) := by decide +kernel
theorem dX6_isValue_15 : decode cX6_isValue 15 = .ok (.iconst 1, 1) := by decide +kernel
theorem dX6_isValue_16 : decode cX6_isValue 16 = .ok (.if_icmp .ne 13, 3) := by decide +kernel
theorem dX6_isValue_19 : decode cX6_isValue 19 = .ok (.iload_n 1, 1) := by decide +kernel
theorem dX6_isValue_20 : decode cX6_isValue 20 = .ok (.iconst 1, 1) := by decide +kernel
theorem dX6_isValue_21 : decode cX6_isValue 21 = .ok (.bipush 99, 2) := by decide +kernel
theorem dX6_isValue_23 : decode cX6_isValue 23 = .ok (.invokestatic 40, 3) := by decide +kernel
theorem dX6_isValue_26 : decode cX6_isValue 26 = .ok (.goto 23, 3) := by decide +kernel
theorem dX6_isValue_29 : decode cX6_isValue 29 = .ok (.iload_n 0, 1) := by decide +kernel
theorem dX6_isValue_30 : decode cX6_isValue 30 = .ok (.iconst 2, 1) := by decide +kernel
theorem dX6_isValue_31 : decode cX6_isValue 31 = .ok (.if_icmp .ne 17, 3) := by decide +kernel
theorem dX6_isValue_34 : decode cX6_isValue 34 = .ok (.iload_n 1, 1) := by decide +kernel
theorem dX6_isValue_35 : decode cX6_isValue 35 = .ok (.iconst 1, 1) := by decide +kernel
theorem dX6_isValue_36 : decode cX6_isValue 36 = .ok (.bipush 60, 2) := by decide +kernel
theorem dX6_isValue_38 : decode cX6_isValue 38 = .ok (.invokestatic 40, 3) := by decide +kernel
theorem dX6_isValue_41 : decode cX6_isValue 41 = .ok (.ifCond .eq 7, 3) := by decide +kernel
theorem dX6_isValue_44 : decode cX6_isValue 44 = .ok (.iconst 1, 1) := by decide +kernel
theorem dX6_isValue_45 : decode cX6_isValue 45 = .ok (.goto 4, 3) := by decide +kernel
theorem dX6_isValue_48 : decode cX6_isValue 48 = .ok (.iconst 0, 1) := by decide +kernel
theorem dX6_isValue_49 : decode cX6_isValue 49 = .ok (.ireturn, 1) := by decide +kernel
theorem dX6_set_0 : decode cX6_set 0 = .ok (.iload_n 1, 1) := by decide +kernel
theorem dX6_set_1 : decode cX6_set 1 = .ok (.iload_n 2, 1) := by decide +kernel
theorem dX6_set_2 : decode cX6_set 2 = .ok (.invokestatic 93, 3) := by decide +kernel
theorem dX6_set_5 : decode cX6_set 5 = .ok (.ifCond .ne 6, 3) := by decide +kernel
theorem dX6_set_8 : decode cX6_set 8 = .ok (.bipush (-2), 2) := by decide +kernel
theorem dX6_set_10 : decode cX6_set 10 = .ok (.ireturn, 1) := by decide +kernel
theorem dX6_set_11 : decode cX6_set 11 = .ok (.aload_n 0, 1) := by decide +kernel
theorem dX6_set_12 : decode cX6_set 12 = .ok (.invokevirtual 96, 3) := by decide +kernel
theorem dX6_set_15 : decode cX6_set 15 = .ok (.aload_n 0, 1) := by decide +kernel
theorem dX6_set_16 : decode cX6_set 16 = .ok (.getfield 7, 3) := by decide +kernel
theorem dX6_set_19 : decode cX6_set 19 = .ok (.iload_n 1, 1) := by decide +kernel
theorem dX6_set_20 : decode cX6_set 20 = .ok (.iaload, 1) := by decide +kernel
theorem dX6_set_21 : decode cX6_set 21 = .ok (.istore_n 3, 1) := by decide +kernel
theorem dX6_set_22 : decode cX6_set 22 = .ok (.aload_n 0, 1) := by decide +kernel
theorem dX6_set_23 : decode cX6_set 23 = .ok (.getfield 7, 3) := by decide +kernel
theorem dX6_set_26 : decode cX6_set 26 = .ok (.iload_n 1, 1) := by decide +kernel
theorem dX6_set_27 : decode cX6_set 27 = .ok (.iload_n 2, 1) := by decide +kernel
theorem dX6_set_28 : decode cX6_set 28 = .ok (.iastore, 1) := by decide +kernel
theorem dX6_set_29 : decode cX6_set 29 = .ok (.iload_n 3, 1) := by decide +kernel
theorem dX6_set_30 : decode cX6_set 30 = .ok (.ireturn, 1) := by decide +kernel
theorem dX6_begin_0 : decode cX6_begin 0 = .ok (.iload_n 1, 1) := by decide +kernel
theorem dX6_begin_1 : decode cX6_begin 1 = .ok (.invokestatic 99, 3) := by decide +kernel
theorem dX6_begin_4 : decode cX6_begin 4 = .ok (.ifCond .ne 5, 3) := by decide +kernel
theorem dX6_begin_7 : decode cX6_begin 7 = .ok (.iconst (-1), 1) := by decide +kernel
theorem dX6_begin_8 : decode cX6_begin 8 = .ok (.ireturn, 1) := by decide +kernel
theorem dX6_begin_9 : decode cX6_begin 9 = .ok (.iload_n 2, 1) := by decide +kernel
theorem dX6_begin_10 : decode cX6_begin 10 = .ok (.iconst 0, 1) := by decide +kernel
theorem dX6_begin_11 : decode cX6_begin 11 = .ok (.bipush 99, 2) := by decide +kernel
theorem dX6_begin_13 : decode cX6_begin 13 = .ok (.invokestatic 40, 3) := by decide +kernel
theorem dX6_begin_16 : decode cX6_begin 16 = .ok (.ifCond .eq 25, 3) := by decide +kernel
theorem dX6_begin_19 : decode cX6_begin 19 = .ok (.iload_n 3, 1) := by decide +kernel
theorem dX6_begin_20 : decode cX6_begin 20 = .ok (.iconst 2, 1) := by decide +kernel
theorem dX6_begin_21 : decode cX6_begin 21 = .ok (.bipush 32, 2) := by decide +kernel
theorem dX6_begin_23 : decode cX6_begin 23 = .ok (.invokestatic 40, 3) := by decide +kernel
theorem dX6_begin_26 : decode cX6_begin 26 = .ok (.ifCond .eq 15, 3) := by decide +kernel
theorem dX6_begin_29 : decode cX6_begin 29 = .ok (.iload 4, 2) := by decide +kernel
theorem dX6_begin_31 : decode cX6_begin 31 = .ok (.iconst 0, 1) := by decide +kernel
theorem dX6_begin_32 : decode cX6_begin 32 = .ok (.sipush 250, 3) := by decide +kernel
theorem dX6_begin_35 : decode cX6_begin 35 = .ok (.invokestatic 40, 3) := by decide +kernel
theorem dX6_begin_38 : decode cX6_begin 38 = .ok (.ifCond .ne 6, 3) := by decide +kernel
theorem dX6_begin_41 : decode cX6_begin 41 = .ok (.bipush (-2), 2) := by decide +kernel
theorem dX6_begin_43 : decode cX6_begin 43 = .ok (.ireturn, 1) := by decide +kernel
theorem dX6_begin_44 : decode cX6_begin 44 = .ok (.aload_n 0, 1) := by decide +kernel
theorem dX6_begin_45 : decode cX6_begin 45 = .ok (.getfield 7, 3) := by decide +kernel
theorem dX6_begin_48 : decode cX6_begin 48 = .ok (.iconst 3, 1) := by decide +kernel
theorem dX6_begin_49 : decode cX6_begin 49 = .ok (.iaload, 1) := by decide +kernel
theorem dX6_begin_50 : decode cX6_begin 50 = .ok (.iload_n 1, 1) := by decide +kernel
theorem dX6_begin_51 : decode cX6_begin 51 = .ok (.if_icmp .eq 26, 3) := by decide +kernel
theorem dX6_begin_54 : decode cX6_begin 54 = .ok (.iload_n 2, 1) := by decide +kernel
theorem dX6_begin_55 : decode cX6_begin 55 = .ok (.aload_n 0, 1) := by decide +kernel
theorem dX6_begin_56 : decode cX6_begin 56 = .ok (.getfield 7, 3) := by decide +kernel
theorem dX6_begin_59 : decode cX6_begin 59 = .ok (.bipush 6, 2) := by decide +kernel
theorem dX6_begin_61 : decode cX6_begin 61 = .ok (.iaload, 1) := by decide +kernel
theorem dX6_begin_62 : decode cX6_begin 62 = .ok (.if_icmp .lt 15, 3) := by decide +kernel
theorem dX6_begin_65 : decode cX6_begin 65 = .ok (.aload_n 0, 1) := by decide +kernel
theorem dX6_begin_66 : decode cX6_begin 66 = .ok (.iload_n 1, 1) := by decide +kernel
theorem dX6_begin_67 : decode cX6_begin 67 = .ok (.iload_n 3, 1) := by decide +kernel
theorem dX6_begin_68 : decode cX6_begin 68 = .ok (.invokestatic 102, 3) := by decide +kernel
theorem dX6_begin_71 : decode cX6_begin 71 = .ok (.invokevirtual 105, 3) := by decide +kernel
theorem dX6_begin_74 : decode cX6_begin 74 = .ok (.ifCond .eq 6, 3) := by decide +kernel
theorem dX6_begin_77 : decode cX6_begin 77 = .ok (.bipush (-5), 2) := by decide +kernel
theorem dX6_begin_79 : decode cX6_begin 79 = .ok (.ireturn, 1) := by decide +kernel
theorem dX6_begin_80 : decode cX6_begin 80 = .ok (.aload_n 0, 1) := by decide +kernel
theorem dX6_begin_81 : decode cX6_begin 81 = .ok (.invokevirtual 96, 3) := by decide +kernel
theorem dX6_begin_84 : decode cX6_begin 84 = .ok (.iconst 0, 1) := by decide +kernel
theorem dX6_begin_85 : decode cX6_begin 85 = .ok (.istore 5, 2) := by decide +kernel
theorem dX6_begin_87 : decode cX6_begin 87 = .ok (.iload 5, 2) := by decide +kernel
theorem dX6_begin_89 : decode cX6_begin 89 = .ok (.iload_n 3, 1) := by decide +kernel
theorem dX6_begin_90 : decode cX6_begin 90 = .ok (.invokestatic 102, 3) := by decide +kernel
theorem dX6_begin_93 : decode cX6_begin 93 = .ok (.if_icmp .ge 16, 3) := by decide +kernel
theorem dX6_begin_96 : decode cX6_begin 96 = .ok (.aload_n 0, 1) := by decide +kernel
theorem dX6_begin_97 : decode cX6_begin 97 = .ok (.iload_n 1, 1) := by decide +kernel
theorem dX6_begin_98 : decode cX6_begin 98 = .ok (.iload 5, 2) := by decide +kernel
theorem dX6_begin_100 : decode cX6_begin 100 = .ok (.invokevirtual 108, 3) := by decide +kernel
theorem dX6_begin_103 : decode cX6_begin 103 = .ok (.iinc 5 1, 3) := by decide +kernel
theorem dX6_begin_106 : decode cX6_begin 106 = .ok (.goto (-19), 3) := by decide +kernel
theorem dX6_begin_109 : decode cX6_begin 109 = .ok (.aload_n 0, 1) := by decide +kernel
theorem dX6_begin_110 : decode cX6_begin 110 = .ok (.iload_n 1, 1) := by decide +kernel
theorem dX6_begin_111 : decode cX6_begin 111 = .ok (.iconst 0, 1) := by decide +kernel
theorem dX6_begin_112 : decode cX6_begin 112 = .ok (.iconst 1, 1) := by decide +kernel
theorem dX6_begin_113 : decode cX6_begin 113 = .ok (.invokevirtual 28, 3) := by decide +kernel
theorem dX6_begin_116 : decode cX6_begin 116 = .ok (.aload_n 0, 1) := by decide +kernel
theorem dX6_begin_117 : decode cX6_begin 117 = .ok (.iload_n 1, 1) := by decide +kernel
theorem dX6_begin_118 : decode cX6_begin 118 = .ok (.iconst 1, 1) := by decide +kernel
theorem dX6_begin_119 : decode cX6_begin 119 = .ok (.iload_n 2, 1) := by decide +kernel
theorem dX6_begin_120 : decode cX6_begin 120 = .ok (.invokevirtual 28, 3) := by decide +kernel
theorem dX6_begin_123 : decode cX6_begin 123 = .ok (.aload_n 0, 1) := by decide +kernel
theorem dX6_begin_124 : decode cX6_begin 124 = .ok (.iload_n 1, 1) := by decide +kernel
theorem dX6_begin_125 : decode cX6_begin 125 = .ok (.iconst 2, 1) := by decide +kernel
theorem dX6_begin_126 : decode cX6_begin 126 = .ok (.iload_n 3, 1) := by decide +kernel
theorem dX6_begin_127 : decode cX6_begin 127 = .ok (.invokevirtual 28, 3) := by decide +kernel
theorem dX6_begin_130 : decode cX6_begin 130 = .ok (.aload_n 0, 1) := by decide +kernel
theorem dX6_begin_131 : decode cX6_begin 131 = .ok (.iload_n 1, 1) := by decide +kernel
theorem dX6_begin_132 : decode cX6_begin 132 = .ok (.iconst 3, 1) := by decide +kernel
theorem dX6_begin_133 : decode cX6_begin 133 = .ok (.iload 4, 2) := by decide +kernel
theorem dX6_begin_135 : decode cX6_begin 135 = .ok (.invokevirtual 28, 3) := by decide +kernel
theorem dX6_begin_138 : decode cX6_begin 138 = .ok (.aload_n 0, 1) := by decide +kernel
theorem dX6_begin_139 : decode cX6_begin 139 = .ok (.iload_n 1, 1) := by decide +kernel
theorem dX6_begin_140 : decode cX6_begin 140 = .ok (.iconst 4, 1) := by decide +kernel
theorem dX6_begin_141 : decode cX6_begin 141 = .ok (.iconst 0, 1) := by decide +kernel
theorem dX6_begin_142 : decode cX6_begin 142 = .ok (.invokevirtual 28, 3) := by decide +kernel
theorem dX6_begin_145 : decode cX6_begin 145 = .ok (.aload_n 0, 1) := by decide +kernel
theorem dX6_begin_146 : decode cX6_begin 146 = .ok (.iload_n 1, 1) := by decide +kernel
theorem dX6_begin_147 : decode cX6_begin 147 = .ok (.iconst 5, 1) := by decide +kernel
theorem dX6_begin_148 : decode cX6_begin 148 = .ok (.iconst 0, 1) := by decide +kernel
theorem dX6_begin_149 : decode cX6_begin 149 = .ok (.invokevirtual 28, 3) := by decide +kernel
theorem dX6_begin_152 : decode cX6_begin 152 = .ok (.aload_n 0, 1) := by decide +kernel
theorem dX6_begin_153 : decode cX6_begin 153 = .ok (.iload_n 1, 1) := by decide +kernel
theorem dX6_begin_154 : decode cX6_begin 154 = .ok (.iload_n 3, 1) := by decide +kernel
theorem dX6_begin_155 : decode cX6_begin 155 = .ok (.invokestatic 102, 3) := by decide +kernel
theorem dX6_begin_158 : decode cX6_begin 158 = .ok (.invokevirtual 112, 3) := by decide +kernel
theorem dX6_begin_161 : decode cX6_begin 161 = .ok (.ireturn, 1) := by decide +kernel
theorem dX6_lacks_0 : decode cX6_lacks 0 = .ok (.aload_n 0, 1) := by decide +kernel
theorem dX6_lacks_1 : decode cX6_lacks 1 = .ok (.iload_n 1, 1) := by decide +kernel
theorem dX6_lacks_2 : decode cX6_lacks 2 = .ok (.iconst 2, 1) := by decide +kernel
theorem dX6_lacks_3 : decode cX6_lacks 3 = .ok (.invokevirtual 44, 3) := by decide +kernel
theorem dX6_lacks_6 : decode cX6_lacks 6 = .ok (.aload_n 0, 1) := by decide +kernel
theorem dX6_lacks_7 : decode cX6_lacks 7 = .ok (.iload_n 1, 1) := by decide +kernel
theorem dX6_lacks_8 : decode cX6_lacks 8 = .ok (.iconst 5, 1) := by decide +kernel
theorem dX6_lacks_9 : decode cX6_lacks 9 = .ok (.invokevirtual 44, 3) := by decide +kernel
theorem dX6_lacks_12 : decode cX6_lacks 12 = .ok (.isub, 1) := by decide +kernel
theorem dX6_lacks_13 : decode cX6_lacks 13 = .ok (.ireturn, 1) := by decide +kernel
theorem dX6_fills_0 : decode cX6_fills 0 = .ok (.aload_n 0, 1) := by decide +kernel
theorem dX6_fills_1 : decode cX6_fills 1 = .ok (.iload_n 1, 1) := by decide +kernel
theorem dX6_fills_2 : decode cX6_fills 2 = .ok (.bipush 14, 2) := by decide +kernel
theorem dX6_fills_4 : decode cX6_fills 4 = .ok (.aload_n 0, 1) := by decide +kernel
theorem dX6_fills_5 : decode cX6_fills 5 = .ok (.iload_n 1, 1) := by decide +kernel
theorem dX6_fills_6 : decode cX6_fills 6 = .ok (.iconst 5, 1) := by decide +kernel
theorem dX6_fills_7 : decode cX6_fills 7 = .ok (.invokevirtual 44, 3) := by decide +kernel
theorem dX6_fills_10 : decode cX6_fills 10 = .ok (.iadd, 1) := by decide +kernel
theorem dX6_fills_11 : decode cX6_fills 11 = .ok (.iload_n 2, 1) := by decide +kernel
theorem dX6_fills_12 : decode cX6_fills 12 = .ok (.invokevirtual 28, 3) := by decide +kernel
theorem dX6_fills_15 : decode cX6_fills 15 = .ok (.aload_n 0, 1) := by decide +kernel
theorem dX6_fills_16 : decode cX6_fills 16 = .ok (.iload_n 1, 1) := by decide +kernel
theorem dX6_fills_17 : decode cX6_fills 17 = .ok (.iconst 5, 1) := by decide +kernel
theorem dX6_fills_18 : decode cX6_fills 18 = .ok (.aload_n 0, 1) := by decide +kernel
theorem dX6_fills_19 : decode cX6_fills 19 = .ok (.iload_n 1, 1) := by decide +kernel
theorem dX6_fills_20 : decode cX6_fills 20 = .ok (.iconst 5, 1) := by decide +kernel
theorem dX6_fills_21 : decode cX6_fills 21 = .ok (.invokevirtual 44, 3) := by decide +kernel
theorem dX6_fills_24 : decode cX6_fills 24 = .ok (.iconst 1, 1) := by decide +kernel
theorem dX6_fills_25 : decode cX6_fills 25 = .ok (.iadd, 1) := by decide +kernel
theorem dX6_fills_26 : decode cX6_fills 26 = .ok (.invokevirtual 28, 3) := by decide +kernel
theorem dX6_fills_29 : decode cX6_fills 29 = .ok (.return_, 1) := by decide +kernel
theorem dX6_fill_0 : decode cX6_fill 0 = .ok (.iload_n 1, 1) := by decide +kernel
theorem dX6_fill_1 : decode cX6_fill 1 = .ok (.invokestatic 99, 3) := by decide +kernel
theorem dX6_fill_4 : decode cX6_fill 4 = .ok (.ifCond .ne 5, 3) := by decide +kernel
theorem dX6_fill_7 : decode cX6_fill 7 = .ok (.iconst (-1), 1) := by decide +kernel
theorem dX6_fill_8 : decode cX6_fill 8 = .ok (.ireturn, 1) := by decide +kernel
theorem dX6_fill_9 : decode cX6_fill 9 = .ok (.iload_n 2, 1) := by decide +kernel
theorem dX6_fill_10 : decode cX6_fill 10 = .ok (.iconst 0, 1) := by decide +kernel
theorem dX6_fill_11 : decode cX6_fill 11 = .ok (.sipush 255, 3) := by decide +kernel
theorem dX6_fill_14 : decode cX6_fill 14 = .ok (.invokestatic 40, 3) := by decide +kernel
theorem dX6_fill_17 : decode cX6_fill 17 = .ok (.ifCond .ne 6, 3) := by decide +kernel
theorem dX6_fill_20 : decode cX6_fill 20 = .ok (.bipush (-2), 2) := by decide +kernel
theorem dX6_fill_22 : decode cX6_fill 22 = .ok (.ireturn, 1) := by decide +kernel
theorem dX6_fill_23 : decode cX6_fill 23 = .ok (.aload_n 0, 1) := by decide +kernel
theorem dX6_fill_24 : decode cX6_fill 24 = .ok (.iload_n 1, 1) := by decide +kernel
theorem dX6_fill_25 : decode cX6_fill 25 = .ok (.iconst 1, 1) := by decide +kernel
theorem dX6_fill_26 : decode cX6_fill 26 = .ok (.invokevirtual 59, 3) := by decide +kernel
theorem dX6_fill_29 : decode cX6_fill 29 = .ok (.ifCond .eq 11, 3) := by decide +kernel
theorem dX6_fill_32 : decode cX6_fill 32 = .ok (.aload_n 0, 1) := by decide +kernel
theorem dX6_fill_33 : decode cX6_fill 33 = .ok (.iload_n 1, 1) := by decide +kernel
theorem dX6_fill_34 : decode cX6_fill 34 = .ok (.invokevirtual 115, 3) := by decide +kernel
theorem dX6_fill_37 : decode cX6_fill 37 = .ok (.ifCond .ne 6, 3) := by decide +kernel
theorem dX6_fill_40 : decode cX6_fill 40 = .ok (.bipush (-5), 2) := by decide +kernel
theorem dX6_fill_42 : decode cX6_fill 42 = .ok (.ireturn, 1) := by decide +kernel
theorem dX6_fill_43 : decode cX6_fill 43 = .ok (.aload_n 0, 1) := by decide +kernel
theorem dX6_fill_44 : decode cX6_fill 44 = .ok (.invokevirtual 96, 3) := by decide +kernel
theorem dX6_fill_47 : decode cX6_fill 47 = .ok (.aload_n 0, 1) := by decide +kernel
theorem dX6_fill_48 : decode cX6_fill 48 = .ok (.iload_n 1, 1) := by decide +kernel
theorem dX6_fill_49 : decode cX6_fill 49 = .ok (.iload_n 2, 1) := by decide +kernel
theorem dX6_fill_50 : decode cX6_fill 50 = .ok (.invokevirtual 118, 3) := by decide +kernel
theorem dX6_fill_53 : decode cX6_fill 53 = .ok (.aload_n 0, 1) := by decide +kernel
theorem dX6_fill_54 : decode cX6_fill 54 = .ok (.iload_n 1, 1) := by decide +kernel
theorem dX6_fill_55 : decode cX6_fill 55 = .ok (.iconst 5, 1) := by decide +kernel
theorem dX6_fill_56 : decode cX6_fill 56 = .ok (.invokevirtual 44, 3) := by decide +kernel
theorem dX6_fill_59 : decode cX6_fill 59 = .ok (.ireturn, 1) := by decide +kernel
theorem dX6_fillAll_0 : decode cX6_fillAll 0 = .ok (.iload_n 1, 1) := by decide +kernel
theorem dX6_fillAll_1 : decode cX6_fillAll 1 = .ok (.invokestatic 99, 3) := by decide +kernel
theorem dX6_fillAll_4 : decode cX6_fillAll 4 = .ok (.ifCond .ne 5, 3) := by decide +kernel
theorem dX6_fillAll_7 : decode cX6_fillAll 7 = .ok (.iconst (-1), 1) := by decide +kernel
theorem dX6_fillAll_8 : decode cX6_fillAll 8 = .ok (.ireturn, 1) := by decide +kernel
theorem dX6_fillAll_9 : decode cX6_fillAll 9 = .ok (.aload_n 0, 1) := by decide +kernel
theorem dX6_fillAll_10 : decode cX6_fillAll 10 = .ok (.invokevirtual 121, 3) := by decide +kernel
theorem dX6_fillAll_13 : decode cX6_fillAll 13 = .ok (.bipush (-6), 2) := by decide +kernel
theorem dX6_fillAll_15 : decode cX6_fillAll 15 = .ok (.if_icmp .eq 6, 3) := by decide +kernel
theorem dX6_fillAll_18 : decode cX6_fillAll 18 = .ok (.bipush (-3), 2) := by decide +kernel
theorem dX6_fillAll_20 : decode cX6_fillAll 20 = .ok (.ireturn, 1) := by decide +kernel
theorem dX6_fillAll_21 : decode cX6_fillAll 21 = .ok (.aload_n 0, 1) := by decide +kernel
theorem dX6_fillAll_22 : decode cX6_fillAll 22 = .ok (.iload_n 1, 1) := by decide +kernel
theorem dX6_fillAll_23 : decode cX6_fillAll 23 = .ok (.iconst 1, 1) := by decide +kernel
theorem dX6_fillAll_24 : decode cX6_fillAll 24 = .ok (.invokevirtual 59, 3) := by decide +kernel
theorem dX6_fillAll_27 : decode cX6_fillAll 27 = .ok (.ifCond .ne 6, 3) := by decide +kernel
theorem dX6_fillAll_30 : decode cX6_fillAll 30 = .ok (.bipush (-5), 2) := by decide +kernel
theorem dX6_fillAll_32 : decode cX6_fillAll 32 = .ok (.ireturn, 1) := by decide +kernel
theorem dX6_fillAll_33 : decode cX6_fillAll 33 = .ok (.aload_n 0, 1) := by decide +kernel
theorem dX6_fillAll_34 : decode cX6_fillAll 34 = .ok (.getfield 124, 3) := by decide +kernel
theorem dX6_fillAll_37 : decode cX6_fillAll 37 = .ok (.iconst 2, 1) := by decide +kernel
theorem dX6_fillAll_38 : decode cX6_fillAll 38 = .ok (.idiv, 1) := by decide +kernel
theorem dX6_fillAll_39 : decode cX6_fillAll 39 = .ok (.aload_n 0, 1) := by decide +kernel
theorem dX6_fillAll_40 : decode cX6_fillAll 40 = .ok (.iload_n 1, 1) := by decide +kernel
theorem dX6_fillAll_41 : decode cX6_fillAll 41 = .ok (.invokevirtual 115, 3) := by decide +kernel
theorem dX6_fillAll_44 : decode cX6_fillAll 44 = .ok (.if_icmp .le 6, 3) := by decide +kernel
theorem dX6_fillAll_47 : decode cX6_fillAll 47 = .ok (.bipush (-4), 2) := by decide +kernel
theorem dX6_fillAll_49 : decode cX6_fillAll 49 = .ok (.ireturn, 1) := by decide +kernel
theorem dX6_fillAll_50 : decode cX6_fillAll 50 = .ok (.aload_n 0, 1) := by decide +kernel
theorem dX6_fillAll_51 : decode cX6_fillAll 51 = .ok (.invokevirtual 96, 3) := by decide +kernel
theorem dX6_fillAll_54 : decode cX6_fillAll 54 = .ok (.iconst 0, 1) := by decide +kernel
theorem dX6_fillAll_55 : decode cX6_fillAll 55 = .ok (.istore_n 2, 1) := by decide +kernel
theorem dX6_fillAll_56 : decode cX6_fillAll 56 = .ok (.iload_n 2, 1) := by decide +kernel
theorem dX6_fillAll_57 : decode cX6_fillAll 57 = .ok (.aload_n 0, 1) := by decide +kernel
theorem dX6_fillAll_58 : decode cX6_fillAll 58 = .ok (.getfield 124, 3) := by decide +kernel
theorem dX6_fillAll_61 : decode cX6_fillAll 61 = .ok (.iconst 2, 1) := by decide +kernel
theorem dX6_fillAll_62 : decode cX6_fillAll 62 = .ok (.idiv, 1) := by decide +kernel
theorem dX6_fillAll_63 : decode cX6_fillAll 63 = .ok (.if_icmp .ge 19, 3) := by decide +kernel
theorem dX6_fillAll_66 : decode cX6_fillAll 66 = .ok (.aload_n 0, 1) := by decide +kernel
theorem dX6_fillAll_67 : decode cX6_fillAll 67 = .ok (.iload_n 1, 1) := by decide +kernel
theorem dX6_fillAll_68 : decode cX6_fillAll 68 = .ok (.aload_n 0, 1) := by decide +kernel
theorem dX6_fillAll_69 : decode cX6_fillAll 69 = .ok (.iload_n 2, 1) := by decide +kernel
theorem dX6_fillAll_70 : decode cX6_fillAll 70 = .ok (.invokevirtual 127, 3) := by decide +kernel
theorem dX6_fillAll_73 : decode cX6_fillAll 73 = .ok (.invokevirtual 118, 3) := by decide +kernel
theorem dX6_fillAll_76 : decode cX6_fillAll 76 = .ok (.iinc 2 1, 3) := by decide +kernel
theorem dX6_fillAll_79 : decode cX6_fillAll 79 = .ok (.goto (-23), 3) := by decide +kernel
theorem dX6_fillAll_82 : decode cX6_fillAll 82 = .ok (.aload_n 0, 1) := by decide +kernel
theorem dX6_fillAll_83 : decode cX6_fillAll 83 = .ok (.iconst 0, 1) := by decide +kernel
theorem dX6_fillAll_84 : decode cX6_fillAll 84 = .ok (.putfield 124, 3) := by decide +kernel
theorem dX6_fillAll_87 : decode cX6_fillAll 87 = .ok (.aload_n 0, 1) := by decide +kernel
theorem dX6_fillAll_88 : decode cX6_fillAll 88 = .ok (.iload_n 1, 1) := by decide +kernel
theorem dX6_fillAll_89 : decode cX6_fillAll 89 = .ok (.iconst 5, 1) := by decide +kernel
theorem dX6_fillAll_90 : decode cX6_fillAll 90 = .ok (.invokevirtual 44, 3) := by decide +kernel
theorem dX6_fillAll_93 : decode cX6_fillAll 93 = .ok (.ireturn, 1) := by decide +kernel
theorem dX6_finish_0 : decode cX6_finish 0 = .ok (.iload_n 1, 1) := by decide +kernel
theorem dX6_finish_1 : decode cX6_finish 1 = .ok (.invokestatic 99, 3) := by decide +kernel
theorem dX6_finish_4 : decode cX6_finish 4 = .ok (.ifCond .ne 5, 3) := by decide +kernel
theorem dX6_finish_7 : decode cX6_finish 7 = .ok (.iconst (-1), 1) := by decide +kernel
theorem dX6_finish_8 : decode cX6_finish 8 = .ok (.ireturn, 1) := by decide +kernel
theorem dX6_finish_9 : decode cX6_finish 9 = .ok (.aload_n 0, 1) := by decide +kernel
theorem dX6_finish_10 : decode cX6_finish 10 = .ok (.iload_n 1, 1) := by decide +kernel
theorem dX6_finish_11 : decode cX6_finish 11 = .ok (.iconst 1, 1) := by decide +kernel
theorem dX6_finish_12 : decode cX6_finish 12 = .ok (.invokevirtual 59, 3) := by decide +kernel
theorem dX6_finish_15 : decode cX6_finish 15 = .ok (.ifCond .eq 11, 3) := by decide +kernel
theorem dX6_finish_18 : decode cX6_finish 18 = .ok (.aload_n 0, 1) := by decide +kernel
theorem dX6_finish_19 : decode cX6_finish 19 = .ok (.iload_n 1, 1) := by decide +kernel
theorem dX6_finish_20 : decode cX6_finish 20 = .ok (.invokevirtual 115, 3) := by decide +kernel
theorem dX6_finish_23 : decode cX6_finish 23 = .ok (.ifCond .le 6, 3) := by decide +kernel
theorem dX6_finish_26 : decode cX6_finish 26 = .ok (.bipush (-5), 2) := by decide +kernel
theorem dX6_finish_28 : decode cX6_finish 28 = .ok (.ireturn, 1) := by decide +kernel
theorem dX6_finish_29 : decode cX6_finish 29 = .ok (.aload_n 0, 1) := by decide +kernel
theorem dX6_finish_30 : decode cX6_finish 30 = .ok (.invokevirtual 96, 3) := by decide +kernel
theorem dX6_finish_33 : decode cX6_finish 33 = .ok (.aload_n 0, 1) := by decide +kernel
theorem dX6_finish_34 : decode cX6_finish 34 = .ok (.iload_n 1, 1) := by decide +kernel
theorem dX6_finish_35 : decode cX6_finish 35 = .ok (.invokevirtual 72, 3) := by decide +kernel
theorem dX6_finish_38 : decode cX6_finish 38 = .ok (.istore_n 2, 1) := by decide +kernel
theorem dX6_finish_39 : decode cX6_finish 39 = .ok (.aload_n 0, 1) := by decide +kernel
theorem dX6_finish_40 : decode cX6_finish 40 = .ok (.iload_n 1, 1) := by decide +kernel
theorem dX6_finish_41 : decode cX6_finish 41 = .ok (.iconst 0, 1) := by decide +kernel
theorem dX6_finish_42 : decode cX6_finish 42 = .ok (.iload_n 2, 1) := by decide +kernel
theorem dX6_finish_43 : decode cX6_finish 43 = .ok (.ifCond .eq 7, 3) := by decide +kernel
theorem dX6_finish_46 : decode cX6_finish 46 = .ok (.iconst 2, 1) := by decide +kernel
theorem dX6_finish_47 : decode cX6_finish 47 = .ok (.goto 4, 3) := by decide +kernel
theorem dX6_finish_50 : decode cX6_finish 50 = .ok (.iconst 4, 1) := by decide +kernel
theorem dX6_finish_51 : decode cX6_finish 51 = .ok (.invokevirtual 28, 3) := by decide +kernel
theorem dX6_finish_54 : decode cX6_finish 54 = .ok (.aload_n 0, 1) := by decide +kernel
theorem dX6_finish_55 : decode cX6_finish 55 = .ok (.iload_n 1, 1) := by decide +kernel
theorem dX6_finish_56 : decode cX6_finish 56 = .ok (.iconst 4, 1) := by decide +kernel
theorem dX6_finish_57 : decode cX6_finish 57 = .ok (.iload_n 2, 1) := by decide +kernel
theorem dX6_finish_58 : decode cX6_finish 58 = .ok (.ifCond .eq 12, 3) := by decide +kernel
theorem dX6_finish_61 : decode cX6_finish 61 = .ok (.aload_n 0, 1) := by decide +kernel
theorem dX6_finish_62 : decode cX6_finish 62 = .ok (.getfield 7, 3) := by decide +kernel
theorem dX6_finish_65 : decode cX6_finish 65 = .ok (.iconst 0, 1) := by decide +kernel
theorem dX6_finish_66 : decode cX6_finish 66 = .ok (.iaload, 1) := by decide +kernel
theorem dX6_finish_67 : decode cX6_finish 67 = .ok (.goto 4, 3) := by decide +kernel
theorem dX6_finish_70 : decode cX6_finish 70 = .ok (.iconst 0, 1) := by decide +kernel
theorem dX6_finish_71 : decode cX6_finish 71 = .ok (.invokevirtual 28, 3) := by decide +kernel
theorem dX6_finish_74 : decode cX6_finish 74 = .ok (.iload_n 2, 1) := by decide +kernel
theorem dX6_finish_75 : decode cX6_finish 75 = .ok (.ifCond .eq 7, 3) := by decide +kernel
theorem dX6_finish_78 : decode cX6_finish 78 = .ok (.iconst 1, 1) := by decide +kernel
theorem dX6_finish_79 : decode cX6_finish 79 = .ok (.goto 4, 3) := by decide +kernel
theorem dX6_finish_82 : decode cX6_finish 82 = .ok (.iconst 0, 1) := by decide +kernel
theorem dX6_finish_83 : decode cX6_finish 83 = .ok (.ireturn, 1) := by decide +kernel
theorem dX6_damage_0 : decode cX6_damage 0 = .ok (.iload_n 1, 1) := by decide +kernel
theorem dX6_damage_1 : decode cX6_damage 1 = .ok (.invokestatic 99, 3) := by decide +kernel
theorem dX6_damage_4 : decode cX6_damage 4 = .ok (.ifCond .eq 13, 3) := by decide +kernel
theorem dX6_damage_7 : decode cX6_damage 7 = .ok (.iload_n 2, 1) := by decide +kernel
theorem dX6_damage_8 : decode cX6_damage 8 = .ok (.iconst 0, 1) := by decide +kernel
theorem dX6_damage_9 : decode cX6_damage 9 = .ok (.bipush 31, 2) := by decide +kernel
theorem dX6_damage_11 : decode cX6_damage 11 = .ok (.invokestatic 40, 3) := by decide +kernel
theorem dX6_damage_14 : decode cX6_damage 14 = .ok (.ifCond .ne 5, 3) := by decide +kernel
theorem dX6_damage_17 : decode cX6_damage 17 = .ok (.iconst (-1), 1) := by decide +kernel
theorem dX6_damage_18 : decode cX6_damage 18 = .ok (.ireturn, 1) := by decide +kernel
theorem dX6_damage_19 : decode cX6_damage 19 = .ok (.iload_n 3, 1) := by decide +kernel
theorem dX6_damage_20 : decode cX6_damage 20 = .ok (.iconst 1, 1) := by decide +kernel
theorem dX6_damage_21 : decode cX6_damage 21 = .ok (.sipush 255, 3) := by decide +kernel
theorem dX6_damage_24 : decode cX6_damage 24 = .ok (.invokestatic 40, 3) := by decide +kernel
theorem dX6_damage_27 : decode cX6_damage 27 = .ok (.ifCond .ne 6, 3) := by decide +kernel
theorem dX6_damage_30 : decode cX6_damage 30 = .ok (.bipush (-2), 2) := by decide +kernel
theorem dX6_damage_32 : decode cX6_damage 32 = .ok (.ireturn, 1) := by decide +kernel
theorem dX6_damage_33 : decode cX6_damage 33 = .ok (.aload_n 0, 1) := by decide +kernel
theorem dX6_damage_34 : decode cX6_damage 34 = .ok (.invokevirtual 96, 3) := by decide +kernel
theorem dX6_damage_37 : decode cX6_damage 37 = .ok (.aload_n 0, 1) := by decide +kernel
theorem dX6_damage_38 : decode cX6_damage 38 = .ok (.iload_n 1, 1) := by decide +kernel
theorem dX6_damage_39 : decode cX6_damage 39 = .ok (.bipush 14, 2) := by decide +kernel
theorem dX6_damage_41 : decode cX6_damage 41 = .ok (.iload_n 2, 1) := by decide +kernel
theorem dX6_damage_42 : decode cX6_damage 42 = .ok (.iadd, 1) := by decide +kernel
theorem dX6_damage_43 : decode cX6_damage 43 = .ok (.aload_n 0, 1) := by decide +kernel
theorem dX6_damage_44 : decode cX6_damage 44 = .ok (.iload_n 1, 1) := by decide +kernel
theorem dX6_damage_45 : decode cX6_damage 45 = .ok (.bipush 14, 2) := by decide +kernel
theorem dX6_damage_47 : decode cX6_damage 47 = .ok (.iload_n 2, 1) := by decide +kernel
theorem dX6_damage_48 : decode cX6_damage 48 = .ok (.iadd, 1) := by decide +kernel
theorem dX6_damage_49 : decode cX6_damage 49 = .ok (.invokevirtual 44, 3) := by decide +kernel
theorem dX6_damage_52 : decode cX6_damage 52 = .ok (.iload_n 3, 1) := by decide +kernel
theorem dX6_damage_53 : decode cX6_damage 53 = .ok (.ixor, 1) := by decide +kernel
theorem dX6_damage_54 : decode cX6_damage 54 = .ok (.invokevirtual 28, 3) := by decide +kernel
theorem dX6_damage_57 : decode cX6_damage 57 = .ok (.aload_n 0, 1) := by decide +kernel
theorem dX6_damage_58 : decode cX6_damage 58 = .ok (.iload_n 1, 1) := by decide +kernel
theorem dX6_damage_59 : decode cX6_damage 59 = .ok (.bipush 14, 2) := by decide +kernel
theorem dX6_damage_61 : decode cX6_damage 61 = .ok (.iload_n 2, 1) := by decide +kernel
theorem dX6_damage_62 : decode cX6_damage 62 = .ok (.iadd, 1) := by decide +kernel
theorem dX6_damage_63 : decode cX6_damage 63 = .ok (.invokevirtual 44, 3) := by decide +kernel
theorem dX6_damage_66 : decode cX6_damage 66 = .ok (.ireturn, 1) := by decide +kernel
theorem dX6_repair_0 : decode cX6_repair 0 = .ok (.iload_n 1, 1) := by decide +kernel
theorem dX6_repair_1 : decode cX6_repair 1 = .ok (.invokestatic 99, 3) := by decide +kernel
theorem dX6_repair_4 : decode cX6_repair 4 = .ok (.ifCond .ne 5, 3) := by decide +kernel
theorem dX6_repair_7 : decode cX6_repair 7 = .ok (.iconst (-1), 1) := by decide +kernel
theorem dX6_repair_8 : decode cX6_repair 8 = .ok (.ireturn, 1) := by decide +kernel
theorem dX6_repair_9 : decode cX6_repair 9 = .ok (.aload_n 0, 1) := by decide +kernel
theorem dX6_repair_10 : decode cX6_repair 10 = .ok (.getfield 7, 3) := by decide +kernel
theorem dX6_repair_13 : decode cX6_repair 13 = .ok (.iconst 3, 1) := by decide +kernel
theorem dX6_repair_14 : decode cX6_repair 14 = .ok (.iaload, 1) := by decide +kernel
theorem dX6_repair_15 : decode cX6_repair 15 = .ok (.iconst 2, 1) := by decide +kernel
theorem dX6_repair_16 : decode cX6_repair 16 = .ok (.if_icmp .ne 22, 3) := by decide +kernel
theorem dX6_repair_19 : decode cX6_repair 19 = .ok (.aload_n 0, 1) := by decide +kernel
theorem dX6_repair_20 : decode cX6_repair 20 = .ok (.iload_n 1, 1) := by decide +kernel
theorem dX6_repair_21 : decode cX6_repair 21 = .ok (.iconst 0, 1) := by decide +kernel
theorem dX6_repair_22 : decode cX6_repair 22 = .ok (.invokevirtual 55, 3) := by decide +kernel
theorem dX6_repair_25 : decode cX6_repair 25 = .ok (.ifCond .ne 13, 3) := by decide +kernel
theorem dX6_repair_28 : decode cX6_repair 28 = .ok (.aload_n 0, 1) := by decide +kernel
theorem dX6_repair_29 : decode cX6_repair 29 = .ok (.getfield 7, 3) := by decide +kernel
theorem dX6_repair_32 : decode cX6_repair 32 = .ok (.bipush 6, 2) := by decide +kernel
theorem dX6_repair_34 : decode cX6_repair 34 = .ok (.iaload, 1) := by decide +kernel
theorem dX6_repair_35 : decode cX6_repair 35 = .ok (.ifCond .le 6, 3) := by decide +kernel
theorem dX6_repair_38 : decode cX6_repair 38 = .ok (.bipush (-5), 2) := by decide +kernel
theorem dX6_repair_40 : decode cX6_repair 40 = .ok (.ireturn, 1) := by decide +kernel
theorem dX6_repair_41 : decode cX6_repair 41 = .ok (.aload_n 0, 1) := by decide +kernel
theorem dX6_repair_42 : decode cX6_repair 42 = .ok (.invokevirtual 96, 3) := by decide +kernel
theorem dX6_repair_45 : decode cX6_repair 45 = .ok (.aload_n 0, 1) := by decide +kernel
theorem dX6_repair_46 : decode cX6_repair 46 = .ok (.iload_n 1, 1) := by decide +kernel
theorem dX6_repair_47 : decode cX6_repair 47 = .ok (.iconst 0, 1) := by decide +kernel
theorem dX6_repair_48 : decode cX6_repair 48 = .ok (.invokevirtual 108, 3) := by decide +kernel
theorem dX6_repair_51 : decode cX6_repair 51 = .ok (.aload_n 0, 1) := by decide +kernel
theorem dX6_repair_52 : decode cX6_repair 52 = .ok (.iload_n 1, 1) := by decide +kernel
theorem dX6_repair_53 : decode cX6_repair 53 = .ok (.iconst 0, 1) := by decide +kernel
theorem dX6_repair_54 : decode cX6_repair 54 = .ok (.iconst 3, 1) := by decide +kernel
theorem dX6_repair_55 : decode cX6_repair 55 = .ok (.invokevirtual 28, 3) := by decide +kernel
theorem dX6_repair_58 : decode cX6_repair 58 = .ok (.aload_n 0, 1) := by decide +kernel
theorem dX6_repair_59 : decode cX6_repair 59 = .ok (.iload_n 1, 1) := by decide +kernel
theorem dX6_repair_60 : decode cX6_repair 60 = .ok (.iconst 1, 1) := by decide +kernel
theorem dX6_repair_61 : decode cX6_repair 61 = .ok (.iconst 0, 1) := by decide +kernel
theorem dX6_repair_62 : decode cX6_repair 62 = .ok (.invokevirtual 28, 3) := by decide +kernel
theorem dX6_repair_65 : decode cX6_repair 65 = .ok (.aload_n 0, 1) := by decide +kernel
theorem dX6_repair_66 : decode cX6_repair 66 = .ok (.iload_n 1, 1) := by decide +kernel
theorem dX6_repair_67 : decode cX6_repair 67 = .ok (.iconst 2, 1) := by decide +kernel
theorem dX6_repair_68 : decode cX6_repair 68 = .ok (.iconst 2, 1) := by decide +kernel
theorem dX6_repair_69 : decode cX6_repair 69 = .ok (.invokevirtual 28, 3) := by decide +kernel
theorem dX6_repair_72 : decode cX6_repair 72 = .ok (.aload_n 0, 1) := by decide +kernel
theorem dX6_repair_73 : decode cX6_repair 73 = .ok (.iload_n 1, 1) := by decide +kernel
theorem dX6_repair_74 : decode cX6_repair 74 = .ok (.iconst 3, 1) := by decide +kernel
theorem dX6_repair_75 : decode cX6_repair 75 = .ok (.aload_n 0, 1) := by decide +kernel
theorem dX6_repair_76 : decode cX6_repair 76 = .ok (.iconst 2, 1) := by decide +kernel
theorem dX6_repair_77 : decode cX6_repair 77 = .ok (.invokevirtual 51, 3) := by decide +kernel
theorem dX6_repair_80 : decode cX6_repair 80 = .ok (.invokevirtual 28, 3) := by decide +kernel
theorem dX6_repair_83 : decode cX6_repair 83 = .ok (.aload_n 0, 1) := by decide +kernel
theorem dX6_repair_84 : decode cX6_repair 84 = .ok (.iload_n 1, 1) := by decide +kernel
theorem dX6_repair_85 : decode cX6_repair 85 = .ok (.iconst 4, 1) := by decide +kernel
theorem dX6_repair_86 : decode cX6_repair 86 = .ok (.iconst 0, 1) := by decide +kernel
theorem dX6_repair_87 : decode cX6_repair 87 = .ok (.invokevirtual 28, 3) := by decide +kernel
theorem dX6_repair_90 : decode cX6_repair 90 = .ok (.aload_n 0, 1) := by decide +kernel
theorem dX6_repair_91 : decode cX6_repair 91 = .ok (.iload_n 1, 1) := by decide +kernel
theorem dX6_repair_92 : decode cX6_repair 92 = .ok (.iconst 5, 1) := by decide +kernel
theorem dX6_repair_93 : decode cX6_repair 93 = .ok (.iconst 2, 1) := by decide +kernel
theorem dX6_repair_94 : decode cX6_repair 94 = .ok (.invokevirtual 28, 3) := by decide +kernel
theorem dX6_repair_97 : decode cX6_repair 97 = .ok (.iconst 0, 1) := by decide +kernel
theorem dX6_repair_98 : decode cX6_repair 98 = .ok (.istore_n 2, 1) := by decide +kernel
theorem dX6_repair_99 : decode cX6_repair 99 = .ok (.iload_n 2, 1) := by decide +kernel
theorem dX6_repair_100 : decode cX6_repair 100 = .ok (.iconst 2, 1) := by decide +kernel
theorem dX6_repair_101 : decode cX6_repair 101 = .ok (.if_icmp .ge 24, 3) := by decide +kernel
theorem dX6_repair_104 : decode cX6_repair 104 = .ok (.aload_n 0, 1) := by decide +kernel
theorem dX6_repair_105 : decode cX6_repair 105 = .ok (.iload_n 1, 1) := by decide +kernel
theorem dX6_repair_106 : decode cX6_repair 106 = .ok (.bipush 14, 2) := by decide +kernel
theorem dX6_repair_108 : decode cX6_repair 108 = .ok (.iload_n 2, 1) := by decide +kernel
theorem dX6_repair_109 : decode cX6_repair 109 = .ok (.iadd, 1) := by decide +kernel
theorem dX6_repair_110 : decode cX6_repair 110 = .ok (.aload_n 0, 1) := by decide +kernel
theorem dX6_repair_111 : decode cX6_repair 111 = .ok (.iconst 2, 1) := by decide +kernel
theorem dX6_repair_112 : decode cX6_repair 112 = .ok (.iload_n 2, 1) := by decide +kernel
theorem dX6_repair_113 : decode cX6_repair 113 = .ok (.invokevirtual 48, 3) := by decide +kernel
theorem dX6_repair_116 : decode cX6_repair 116 = .ok (.invokevirtual 28, 3) := by decide +kernel
theorem dX6_repair_119 : decode cX6_repair 119 = .ok (.iinc 2 1, 3) := by decide +kernel
theorem dX6_repair_122 : decode cX6_repair 122 = .ok (.goto (-23), 3) := by decide +kernel
theorem dX6_repair_125 : decode cX6_repair 125 = .ok (.aload_n 0, 1) := by decide +kernel
theorem dX6_repair_126 : decode cX6_repair 126 = .ok (.iload_n 1, 1) := by decide +kernel
theorem dX6_repair_127 : decode cX6_repair 127 = .ok (.bipush 6, 2) := by decide +kernel
theorem dX6_repair_129 : decode cX6_repair 129 = .ok (.invokevirtual 44, 3) := by decide +kernel
theorem dX6_repair_132 : decode cX6_repair 132 = .ok (.ireturn, 1) := by decide +kernel
theorem dX6_start_0 : decode cX6_start 0 = .ok (.aload_n 0, 1) := by decide +kernel
theorem dX6_start_1 : decode cX6_start 1 = .ok (.invokevirtual 96, 3) := by decide +kernel
theorem dX6_start_4 : decode cX6_start 4 = .ok (.aload_n 0, 1) := by decide +kernel
theorem dX6_start_5 : decode cX6_start 5 = .ok (.iload_n 1, 1) := by decide +kernel
theorem dX6_start_6 : decode cX6_start 6 = .ok (.ifCond .eq 7, 3) := by decide +kernel
theorem dX6_start_9 : decode cX6_start 9 = .ok (.iconst 2, 1) := by decide +kernel
theorem dX6_start_10 : decode cX6_start 10 = .ok (.goto 4, 3) := by decide +kernel
theorem dX6_start_13 : decode cX6_start 13 = .ok (.iconst 0, 1) := by decide +kernel
theorem dX6_start_14 : decode cX6_start 14 = .ok (.invokevirtual 87, 3) := by decide +kernel
theorem dX6_start_17 : decode cX6_start 17 = .ok (.aload_n 0, 1) := by decide +kernel
theorem dX6_start_18 : decode cX6_start 18 = .ok (.getfield 7, 3) := by decide +kernel
theorem dX6_start_21 : decode cX6_start 21 = .ok (.iconst 3, 1) := by decide +kernel
theorem dX6_start_22 : decode cX6_start 22 = .ok (.iaload, 1) := by decide +kernel
theorem dX6_start_23 : decode cX6_start 23 = .ok (.ireturn, 1) := by decide +kernel
theorem dX6_pass_0 : decode cX6_pass 0 = .ok (.iload_n 1, 1) := by decide +kernel
theorem dX6_pass_1 : decode cX6_pass 1 = .ok (.iconst 1, 1) := by decide +kernel
theorem dX6_pass_2 : decode cX6_pass 2 = .ok (.sipush 500, 3) := by decide +kernel
theorem dX6_pass_5 : decode cX6_pass 5 = .ok (.invokestatic 40, 3) := by decide +kernel
theorem dX6_pass_8 : decode cX6_pass 8 = .ok (.ifCond .ne 6, 3) := by decide +kernel
theorem dX6_pass_11 : decode cX6_pass 11 = .ok (.bipush (-2), 2) := by decide +kernel
theorem dX6_pass_13 : decode cX6_pass 13 = .ok (.ireturn, 1) := by decide +kernel
theorem dX6_pass_14 : decode cX6_pass 14 = .ok (.aload_n 0, 1) := by decide +kernel
theorem dX6_pass_15 : decode cX6_pass 15 = .ok (.invokevirtual 96, 3) := by decide +kernel
theorem dX6_pass_18 : decode cX6_pass 18 = .ok (.aload_n 0, 1) := by decide +kernel
theorem dX6_pass_19 : decode cX6_pass 19 = .ok (.iload_n 1, 1) := by decide +kernel
theorem dX6_pass_20 : decode cX6_pass 20 = .ok (.invokevirtual 130, 3) := by decide +kernel
theorem dX6_pass_23 : decode cX6_pass 23 = .ok (.ireturn, 1) := by decide +kernel
theorem dX6_wornMany_0 : decode cX6_wornMany 0 = .ok (.iconst 0, 1) := by decide +kernel
theorem dX6_wornMany_1 : decode cX6_wornMany 1 = .ok (.istore_n 2, 1) := by decide +kernel
theorem dX6_wornMany_2 : decode cX6_wornMany 2 = .ok (.iconst 0, 1) := by decide +kernel
theorem dX6_wornMany_3 : decode cX6_wornMany 3 = .ok (.istore_n 3, 1) := by decide +kernel
theorem dX6_wornMany_4 : decode cX6_wornMany 4 = .ok (.iload_n 3, 1) := by decide +kernel
theorem dX6_wornMany_5 : decode cX6_wornMany 5 = .ok (.bipush 8, 2) := by decide +kernel
theorem dX6_wornMany_7 : decode cX6_wornMany 7 = .ok (.if_icmp .ge 26, 3) := by decide +kernel
theorem dX6_wornMany_10 : decode cX6_wornMany 10 = .ok (.iload_n 2, 1) := by decide +kernel
theorem dX6_wornMany_11 : decode cX6_wornMany 11 = .ok (.aload_n 0, 1) := by decide +kernel
theorem dX6_wornMany_12 : decode cX6_wornMany 12 = .ok (.iload_n 1, 1) := by decide +kernel
theorem dX6_wornMany_13 : decode cX6_wornMany 13 = .ok (.iload_n 3, 1) := by decide +kernel
theorem dX6_wornMany_14 : decode cX6_wornMany 14 = .ok (.invokevirtual 55, 3) := by decide +kernel
theorem dX6_wornMany_17 : decode cX6_wornMany 17 = .ok (.ifCond .eq 7, 3) := by decide +kernel
theorem dX6_wornMany_20 : decode cX6_wornMany 20 = .ok (.iconst 1, 1) := by decide +kernel
theorem dX6_wornMany_21 : decode cX6_wornMany 21 = .ok (.goto 4, 3) := by decide +kernel
theorem dX6_wornMany_24 : decode cX6_wornMany 24 = .ok (.iconst 0, 1) := by decide +kernel
theorem dX6_wornMany_25 : decode cX6_wornMany 25 = .ok (.iadd, 1) := by decide +kernel
theorem dX6_wornMany_26 : decode cX6_wornMany 26 = .ok (.istore_n 2, 1) := by decide +kernel
theorem dX6_wornMany_27 : decode cX6_wornMany 27 = .ok (.iinc 3 1, 3) := by decide +kernel
theorem dX6_wornMany_30 : decode cX6_wornMany 30 = .ok (.goto (-26), 3) := by decide +kernel
theorem dX6_wornMany_33 : decode cX6_wornMany 33 = .ok (.iload_n 2, 1) := by decide +kernel
theorem dX6_wornMany_34 : decode cX6_wornMany 34 = .ok (.ireturn, 1) := by decide +kernel
theorem dX6_slot_0 : decode cX6_slot 0 = .ok (.iload_n 1, 1) := by decide +kernel
theorem dX6_slot_1 : decode cX6_slot 1 = .ok (.invokestatic 99, 3) := by decide +kernel
theorem dX6_slot_4 : decode cX6_slot 4 = .ok (.ifCond .ne 5, 3) := by decide +kernel
theorem dX6_slot_7 : decode cX6_slot 7 = .ok (.iconst (-1), 1) := by decide +kernel
theorem dX6_slot_8 : decode cX6_slot 8 = .ok (.ireturn, 1) := by decide +kernel
theorem dX6_slot_9 : decode cX6_slot 9 = .ok (.iload_n 2, 1) := by decide +kernel
theorem dX6_slot_10 : decode cX6_slot 10 = .ok (.tableswitch 91 0 8 #[50, 50, 50, 50, 50, 50, 57, 77, 85], 50) := by decide +kernel
theorem dX6_slot_60 : decode cX6_slot 60 = .ok (.aload_n 0, 1) := by decide +kernel
theorem dX6_slot_61 : decode cX6_slot 61 = .ok (.iload_n 1, 1) := by decide +kernel
theorem dX6_slot_62 : decode cX6_slot 62 = .ok (.iload_n 2, 1) := by decide +kernel
theorem dX6_slot_63 : decode cX6_slot 63 = .ok (.invokevirtual 44, 3) := by decide +kernel
theorem dX6_slot_66 : decode cX6_slot 66 = .ok (.ireturn, 1) := by decide +kernel
theorem dX6_slot_67 : decode cX6_slot 67 = .ok (.aload_n 0, 1) := by decide +kernel
theorem dX6_slot_68 : decode cX6_slot 68 = .ok (.iload_n 1, 1) := by decide +kernel
theorem dX6_slot_69 : decode cX6_slot 69 = .ok (.iconst 2, 1) := by decide +kernel
theorem dX6_slot_70 : decode cX6_slot 70 = .ok (.invokevirtual 44, 3) := by decide +kernel
theorem dX6_slot_73 : decode cX6_slot 73 = .ok (.ifCond .ne 8, 3) := by decide +kernel
theorem dX6_slot_76 : decode cX6_slot 76 = .ok (.bipush (-6), 2) := by decide +kernel
theorem dX6_slot_78 : decode cX6_slot 78 = .ok (.goto 8, 3) := by decide +kernel
theorem dX6_slot_81 : decode cX6_slot 81 = .ok (.aload_n 0, 1) := by decide +kernel
theorem dX6_slot_82 : decode cX6_slot 82 = .ok (.iload_n 1, 1) := by decide +kernel
theorem dX6_slot_83 : decode cX6_slot 83 = .ok (.invokevirtual 51, 3) := by decide +kernel
theorem dX6_slot_86 : decode cX6_slot 86 = .ok (.ireturn, 1) := by decide +kernel
theorem dX6_slot_87 : decode cX6_slot 87 = .ok (.aload_n 0, 1) := by decide +kernel
theorem dX6_slot_88 : decode cX6_slot 88 = .ok (.iload_n 1, 1) := by decide +kernel
theorem dX6_slot_89 : decode cX6_slot 89 = .ok (.bipush 8, 2) := by decide +kernel
theorem dX6_slot_91 : decode cX6_slot 91 = .ok (.invokevirtual 112, 3) := by decide +kernel
theorem dX6_slot_94 : decode cX6_slot 94 = .ok (.ireturn, 1) := by decide +kernel
theorem dX6_slot_95 : decode cX6_slot 95 = .ok (.aload_n 0, 1) := by decide +kernel
theorem dX6_slot_96 : decode cX6_slot 96 = .ok (.iload_n 1, 1) := by decide +kernel
theorem dX6_slot_97 : decode cX6_slot 97 = .ok (.invokevirtual 133, 3) := by decide +kernel
theorem dX6_slot_100 : decode cX6_slot 100 = .ok (.ireturn, 1) := by decide +kernel
theorem dX6_slot_101 : decode cX6_slot 101 = .ok (.bipush (-2), 2) := by decide +kernel
theorem dX6_slot_103 : decode cX6_slot 103 = .ok (.ireturn, 1) := by decide +kernel
theorem dX6_word_0 : decode cX6_word 0 = .ok (.iload_n 1, 1) := by decide +kernel
theorem dX6_word_1 : decode cX6_word 1 = .ok (.iconst 0, 1) := by decide +kernel
theorem dX6_word_2 : decode cX6_word 2 = .ok (.iconst 2, 1) := by decide +kernel
theorem dX6_word_3 : decode cX6_word 3 = .ok (.invokestatic 40, 3) := by decide +kernel
theorem dX6_word_6 : decode cX6_word 6 = .ok (.ifCond .eq 22, 3) := by decide +kernel
theorem dX6_word_9 : decode cX6_word 9 = .ok (.iload_n 2, 1) := by decide +kernel
theorem dX6_word_10 : decode cX6_word 10 = .ok (.iconst 0, 1) := by decide +kernel
theorem dX6_word_11 : decode cX6_word 11 = .ok (.bipush 31, 2) := by decide +kernel
theorem dX6_word_13 : decode cX6_word 13 = .ok (.invokestatic 40, 3) := by decide +kernel
theorem dX6_word_16 : decode cX6_word 16 = .ok (.ifCond .eq 12, 3) := by decide +kernel
theorem dX6_word_19 : decode cX6_word 19 = .ok (.aload_n 0, 1) := by decide +kernel
theorem dX6_word_20 : decode cX6_word 20 = .ok (.iload_n 1, 1) := by decide +kernel
theorem dX6_word_21 : decode cX6_word 21 = .ok (.iload_n 2, 1) := by decide +kernel
theorem dX6_word_22 : decode cX6_word 22 = .ok (.invokevirtual 48, 3) := by decide +kernel
theorem dX6_word_25 : decode cX6_word 25 = .ok (.goto 4, 3) := by decide +kernel
theorem dX6_word_28 : decode cX6_word 28 = .ok (.iconst (-1), 1) := by decide +kernel
theorem dX6_word_29 : decode cX6_word 29 = .ok (.ireturn, 1) := by decide +kernel
theorem dX6_wear_0 : decode cX6_wear 0 = .ok (.iload_n 1, 1) := by decide +kernel
theorem dX6_wear_1 : decode cX6_wear 1 = .ok (.invokestatic 99, 3) := by decide +kernel
theorem dX6_wear_4 : decode cX6_wear 4 = .ok (.ifCond .eq 25, 3) := by decide +kernel
theorem dX6_wear_7 : decode cX6_wear 7 = .ok (.iload_n 2, 1) := by decide +kernel
theorem dX6_wear_8 : decode cX6_wear 8 = .ok (.iconst 0, 1) := by decide +kernel
theorem dX6_wear_9 : decode cX6_wear 9 = .ok (.bipush 7, 2) := by decide +kernel
theorem dX6_wear_11 : decode cX6_wear 11 = .ok (.invokestatic 40, 3) := by decide +kernel
theorem dX6_wear_14 : decode cX6_wear 14 = .ok (.ifCond .eq 15, 3) := by decide +kernel
theorem dX6_wear_17 : decode cX6_wear 17 = .ok (.aload_n 0, 1) := by decide +kernel
theorem dX6_wear_18 : decode cX6_wear 18 = .ok (.iload_n 1, 1) := by decide +kernel
theorem dX6_wear_19 : decode cX6_wear 19 = .ok (.bipush 6, 2) := by decide +kernel
theorem dX6_wear_21 : decode cX6_wear 21 = .ok (.iload_n 2, 1) := by decide +kernel
theorem dX6_wear_22 : decode cX6_wear 22 = .ok (.iadd, 1) := by decide +kernel
theorem dX6_wear_23 : decode cX6_wear 23 = .ok (.invokevirtual 44, 3) := by decide +kernel
theorem dX6_wear_26 : decode cX6_wear 26 = .ok (.goto 4, 3) := by decide +kernel
theorem dX6_wear_29 : decode cX6_wear 29 = .ok (.iconst (-1), 1) := by decide +kernel
theorem dX6_wear_30 : decode cX6_wear 30 = .ok (.ireturn, 1) := by decide +kernel
theorem dX6_past_0 : decode cX6_past 0 = .ok (.iload_n 1, 1) := by decide +kernel
theorem dX6_past_1 : decode cX6_past 1 = .ok (.iconst 0, 1) := by decide +kernel
theorem dX6_past_2 : decode cX6_past 2 = .ok (.aload_n 0, 1) := by decide +kernel
theorem dX6_past_3 : decode cX6_past 3 = .ok (.getfield 7, 3) := by decide +kernel
theorem dX6_past_6 : decode cX6_past 6 = .ok (.bipush 10, 2) := by decide +kernel
theorem dX6_past_8 : decode cX6_past 8 = .ok (.iaload, 1) := by decide +kernel
theorem dX6_past_9 : decode cX6_past 9 = .ok (.iconst 1, 1) := by decide +kernel
theorem dX6_past_10 : decode cX6_past 10 = .ok (.isub, 1) := by decide +kernel
theorem dX6_past_11 : decode cX6_past 11 = .ok (.invokestatic 40, 3) := by decide +kernel
theorem dX6_past_14 : decode cX6_past 14 = .ok (.ifCond .ne 5, 3) := by decide +kernel
theorem dX6_past_17 : decode cX6_past 17 = .ok (.iconst (-1), 1) := by decide +kernel
theorem dX6_past_18 : decode cX6_past 18 = .ok (.ireturn, 1) := by decide +kernel
theorem dX6_past_19 : decode cX6_past 19 = .ok (.iload_n 2, 1) := by decide +kernel
theorem dX6_past_20 : decode cX6_past 20 = .ok (.iconst 0, 1) := by decide +kernel
theorem dX6_past_21 : decode cX6_past 21 = .ok (.iconst 2, 1) := by decide +kernel
theorem dX6_past_22 : decode cX6_past 22 = .ok (.invokestatic 40, 3) := by decide +kernel
theorem dX6_past_25 : decode cX6_past 25 = .ok (.ifCond .eq 19, 3) := by decide +kernel
theorem dX6_past_28 : decode cX6_past 28 = .ok (.aload_n 0, 1) := by decide +kernel
theorem dX6_past_29 : decode cX6_past 29 = .ok (.getfield 7, 3) := by decide +kernel
theorem dX6_past_32 : decode cX6_past 32 = .ok (.bipush 103, 2) := by decide +kernel
theorem dX6_past_34 : decode cX6_past 34 = .ok (.iconst 3, 1) := by decide +kernel
theorem dX6_past_35 : decode cX6_past 35 = .ok (.iload_n 1, 1) := by decide +kernel
theorem dX6_past_36 : decode cX6_past 36 = .ok (.imul, 1) := by decide +kernel
theorem dX6_past_37 : decode cX6_past 37 = .ok (.iadd, 1) := by decide +kernel
theorem dX6_past_38 : decode cX6_past 38 = .ok (.iload_n 2, 1) := by decide +kernel
theorem dX6_past_39 : decode cX6_past 39 = .ok (.iadd, 1) := by decide +kernel
theorem dX6_past_40 : decode cX6_past 40 = .ok (.iaload, 1) := by decide +kernel
theorem dX6_past_41 : decode cX6_past 41 = .ok (.goto 5, 3) := by decide +kernel
theorem dX6_past_44 : decode cX6_past 44 = .ok (.bipush (-2), 2) := by decide +kernel
theorem dX6_past_46 : decode cX6_past 46 = .ok (.ireturn, 1) := by decide +kernel
theorem dX6_count_0 : decode cX6_count 0 = .ok (.iload_n 1, 1) := by decide +kernel
theorem dX6_count_1 : decode cX6_count 1 = .ok (.tableswitch 146 0 12 #[67, 74, 81, 88, 96, 104, 112, 120, 126, 126, 126, 136, 141], 67) := by decide +kernel
theorem dX6_count_68 : decode cX6_count 68 = .ok (.aload_n 0, 1) := by decide +kernel
theorem dX6_count_69 : decode cX6_count 69 = .ok (.getfield 7, 3) := by decide +kernel
theorem dX6_count_72 : decode cX6_count 72 = .ok (.iconst 3, 1) := by decide +kernel
theorem dX6_count_73 : decode cX6_count 73 = .ok (.iaload, 1) := by decide +kernel
theorem dX6_count_74 : decode cX6_count 74 = .ok (.ireturn, 1) := by decide +kernel
theorem dX6_count_75 : decode cX6_count 75 = .ok (.aload_n 0, 1) := by decide +kernel
theorem dX6_count_76 : decode cX6_count 76 = .ok (.getfield 7, 3) := by decide +kernel
theorem dX6_count_79 : decode cX6_count 79 = .ok (.iconst 4, 1) := by decide +kernel
theorem dX6_count_80 : decode cX6_count 80 = .ok (.iaload, 1) := by decide +kernel
theorem dX6_count_81 : decode cX6_count 81 = .ok (.ireturn, 1) := by decide +kernel
theorem dX6_count_82 : decode cX6_count 82 = .ok (.aload_n 0, 1) := by decide +kernel
theorem dX6_count_83 : decode cX6_count 83 = .ok (.getfield 7, 3) := by decide +kernel
theorem dX6_count_86 : decode cX6_count 86 = .ok (.iconst 5, 1) := by decide +kernel
theorem dX6_count_87 : decode cX6_count 87 = .ok (.iaload, 1) := by decide +kernel
theorem dX6_count_88 : decode cX6_count 88 = .ok (.ireturn, 1) := by decide +kernel
theorem dX6_count_89 : decode cX6_count 89 = .ok (.aload_n 0, 1) := by decide +kernel
theorem dX6_count_90 : decode cX6_count 90 = .ok (.getfield 7, 3) := by decide +kernel
theorem dX6_count_93 : decode cX6_count 93 = .ok (.bipush 6, 2) := by decide +kernel
theorem dX6_count_95 : decode cX6_count 95 = .ok (.iaload, 1) := by decide +kernel
theorem dX6_count_96 : decode cX6_count 96 = .ok (.ireturn, 1) := by decide +kernel
theorem dX6_count_97 : decode cX6_count 97 = .ok (.aload_n 0, 1) := by decide +kernel
theorem dX6_count_98 : decode cX6_count 98 = .ok (.getfield 7, 3) := by decide +kernel
theorem dX6_count_101 : decode cX6_count 101 = .ok (.bipush 7, 2) := by decide +kernel
theorem dX6_count_103 : decode cX6_count 103 = .ok (.iaload, 1) := by decide +kernel
theorem dX6_count_104 : decode cX6_count 104 = .ok (.ireturn, 1) := by decide +kernel
theorem dX6_count_105 : decode cX6_count 105 = .ok (.aload_n 0, 1) := by decide +kernel
theorem dX6_count_106 : decode cX6_count 106 = .ok (.getfield 7, 3) := by decide +kernel
theorem dX6_count_109 : decode cX6_count 109 = .ok (.bipush 8, 2) := by decide +kernel
theorem dX6_count_111 : decode cX6_count 111 = .ok (.iaload, 1) := by decide +kernel
theorem dX6_count_112 : decode cX6_count 112 = .ok (.ireturn, 1) := by decide +kernel
theorem dX6_count_113 : decode cX6_count 113 = .ok (.aload_n 0, 1) := by decide +kernel
theorem dX6_count_114 : decode cX6_count 114 = .ok (.getfield 7, 3) := by decide +kernel
theorem dX6_count_117 : decode cX6_count 117 = .ok (.bipush 9, 2) := by decide +kernel
theorem dX6_count_119 : decode cX6_count 119 = .ok (.iaload, 1) := by decide +kernel
theorem dX6_count_120 : decode cX6_count 120 = .ok (.ireturn, 1) := by decide +kernel
theorem dX6_count_121 : decode cX6_count 121 = .ok (.aload_n 0, 1) := by decide +kernel
theorem dX6_count_122 : decode cX6_count 122 = .ok (.iconst 2, 1) := by decide +kernel
theorem dX6_count_123 : decode cX6_count 123 = .ok (.invokevirtual 51, 3) := by decide +kernel
theorem dX6_count_126 : decode cX6_count 126 = .ok (.ireturn, 1) := by decide +kernel
theorem dX6_count_127 : decode cX6_count 127 = .ok (.aload_n 0, 1) := by decide +kernel
theorem dX6_count_128 : decode cX6_count 128 = .ok (.getfield 7, 3) := by decide +kernel
theorem dX6_count_131 : decode cX6_count 131 = .ok (.iload_n 1, 1) := by decide +kernel
theorem dX6_count_132 : decode cX6_count 132 = .ok (.bipush 8, 2) := by decide +kernel
theorem dX6_count_134 : decode cX6_count 134 = .ok (.isub, 1) := by decide +kernel
theorem dX6_count_135 : decode cX6_count 135 = .ok (.iaload, 1) := by decide +kernel
theorem dX6_count_136 : decode cX6_count 136 = .ok (.ireturn, 1) := by decide +kernel
theorem dX6_count_137 : decode cX6_count 137 = .ok (.aload_n 0, 1) := by decide +kernel
theorem dX6_count_138 : decode cX6_count 138 = .ok (.getfield 124, 3) := by decide +kernel
theorem dX6_count_141 : decode cX6_count 141 = .ok (.ireturn, 1) := by decide +kernel
theorem dX6_count_142 : decode cX6_count 142 = .ok (.aload_n 0, 1) := by decide +kernel
theorem dX6_count_143 : decode cX6_count 143 = .ok (.getfield 32, 3) := by decide +kernel
theorem dX6_count_146 : decode cX6_count 146 = .ok (.ireturn, 1) := by decide +kernel
theorem dX6_count_147 : decode cX6_count 147 = .ok (.bipush (-2), 2) := by decide +kernel
theorem dX6_count_149 : decode cX6_count 149 = .ok (.ireturn, 1) := by decide +kernel
theorem dX6_padSum_0 : decode cX6_padSum 0 = .ok (.aload_n 0, 1) := by decide +kernel
theorem dX6_padSum_1 : decode cX6_padSum 1 = .ok (.invokevirtual 121, 3) := by decide +kernel
theorem dX6_padSum_4 : decode cX6_padSum 4 = .ok (.bipush (-6), 2) := by decide +kernel
theorem dX6_padSum_6 : decode cX6_padSum 6 = .ok (.if_icmp .eq 6, 3) := by decide +kernel
theorem dX6_padSum_9 : decode cX6_padSum 9 = .ok (.bipush (-3), 2) := by decide +kernel
theorem dX6_padSum_11 : decode cX6_padSum 11 = .ok (.ireturn, 1) := by decide +kernel
theorem dX6_padSum_12 : decode cX6_padSum 12 = .ok (.iconst 1, 1) := by decide +kernel
theorem dX6_padSum_13 : decode cX6_padSum 13 = .ok (.istore_n 1, 1) := by decide +kernel
theorem dX6_padSum_14 : decode cX6_padSum 14 = .ok (.iconst 0, 1) := by decide +kernel
theorem dX6_padSum_15 : decode cX6_padSum 15 = .ok (.istore_n 2, 1) := by decide +kernel
theorem dX6_padSum_16 : decode cX6_padSum 16 = .ok (.iload_n 2, 1) := by decide +kernel
theorem dX6_padSum_17 : decode cX6_padSum 17 = .ok (.aload_n 0, 1) := by decide +kernel
theorem dX6_padSum_18 : decode cX6_padSum 18 = .ok (.getfield 124, 3) := by decide +kernel
theorem dX6_padSum_21 : decode cX6_padSum 21 = .ok (.iconst 2, 1) := by decide +kernel
theorem dX6_padSum_22 : decode cX6_padSum 22 = .ok (.idiv, 1) := by decide +kernel
theorem dX6_padSum_23 : decode cX6_padSum 23 = .ok (.if_icmp .ge 23, 3) := by decide +kernel
theorem dX6_padSum_26 : decode cX6_padSum 26 = .ok (.iconst 3, 1) := by decide +kernel
theorem dX6_padSum_27 : decode cX6_padSum 27 = .ok (.iload_n 1, 1) := by decide +kernel
theorem dX6_padSum_28 : decode cX6_padSum 28 = .ok (.imul, 1) := by decide +kernel
theorem dX6_padSum_29 : decode cX6_padSum 29 = .ok (.aload_n 0, 1) := by decide +kernel
theorem dX6_padSum_30 : decode cX6_padSum 30 = .ok (.iload_n 2, 1) := by decide +kernel
theorem dX6_padSum_31 : decode cX6_padSum 31 = .ok (.invokevirtual 127, 3) := by decide +kernel
theorem dX6_padSum_34 : decode cX6_padSum 34 = .ok (.iadd, 1) := by decide +kernel
theorem dX6_padSum_35 : decode cX6_padSum 35 = .ok (.sipush 251, 3) := by decide +kernel
theorem dX6_padSum_38 : decode cX6_padSum 38 = .ok (.irem, 1) := by decide +kernel
theorem dX6_padSum_39 : decode cX6_padSum 39 = .ok (.istore_n 1, 1) := by decide +kernel
theorem dX6_padSum_40 : decode cX6_padSum 40 = .ok (.iinc 2 1, 3) := by decide +kernel
theorem dX6_padSum_43 : decode cX6_padSum 43 = .ok (.goto (-27), 3) := by decide +kernel
theorem dX6_padSum_46 : decode cX6_padSum 46 = .ok (.iload_n 1, 1) := by decide +kernel
theorem dX6_padSum_47 : decode cX6_padSum 47 = .ok (.ireturn, 1) := by decide +kernel
theorem dX6_badMany_0 : decode cX6_badMany 0 = .ok (.aload_n 0, 1) := by decide +kernel
theorem dX6_badMany_1 : decode cX6_badMany 1 = .ok (.iconst 0, 1) := by decide +kernel
theorem dX6_badMany_2 : decode cX6_badMany 2 = .ok (.iconst 4, 1) := by decide +kernel
theorem dX6_badMany_3 : decode cX6_badMany 3 = .ok (.invokevirtual 59, 3) := by decide +kernel
theorem dX6_badMany_6 : decode cX6_badMany 6 = .ok (.ifCond .eq 7, 3) := by decide +kernel
theorem dX6_badMany_9 : decode cX6_badMany 9 = .ok (.iconst 1, 1) := by decide +kernel
theorem dX6_badMany_10 : decode cX6_badMany 10 = .ok (.goto 4, 3) := by decide +kernel
theorem dX6_badMany_13 : decode cX6_badMany 13 = .ok (.iconst 0, 1) := by decide +kernel
theorem dX6_badMany_14 : decode cX6_badMany 14 = .ok (.aload_n 0, 1) := by decide +kernel
theorem dX6_badMany_15 : decode cX6_badMany 15 = .ok (.iconst 1, 1) := by decide +kernel
theorem dX6_badMany_16 : decode cX6_badMany 16 = .ok (.iconst 4, 1) := by decide +kernel
theorem dX6_badMany_17 : decode cX6_badMany 17 = .ok (.invokevirtual 59, 3) := by decide +kernel
theorem dX6_badMany_20 : decode cX6_badMany 20 = .ok (.ifCond .eq 7, 3) := by decide +kernel
theorem dX6_badMany_23 : decode cX6_badMany 23 = .ok (.iconst 1, 1) := by decide +kernel
theorem dX6_badMany_24 : decode cX6_badMany 24 = .ok (.goto 4, 3) := by decide +kernel
theorem dX6_badMany_27 : decode cX6_badMany 27 = .ok (.iconst 0, 1) := by decide +kernel
theorem dX6_badMany_28 : decode cX6_badMany 28 = .ok (.iadd, 1) := by decide +kernel
theorem dX6_badMany_29 : decode cX6_badMany 29 = .ok (.ireturn, 1) := by decide +kernel
theorem dX6_ifStarted_0 : decode cX6_ifStarted 0 = .ok (.aload_n 0, 1) := by decide +kernel
theorem dX6_ifStarted_1 : decode cX6_ifStarted 1 = .ok (.getfield 7, 3) := by decide +kernel
theorem dX6_ifStarted_4 : decode cX6_ifStarted 4 = .ok (.iconst 0, 1) := by decide +kernel
theorem dX6_ifStarted_5 : decode cX6_ifStarted 5 = .ok (.aload_n 0, 1) := by decide +kernel
theorem dX6_ifStarted_6 : decode cX6_ifStarted 6 = .ok (.getfield 13, 3) := by decide +kernel
theorem dX6_ifStarted_9 : decode cX6_ifStarted 9 = .ok (.iconst 0, 1) := by decide +kernel
theorem dX6_ifStarted_10 : decode cX6_ifStarted 10 = .ok (.invokestatic 36, 3) := by decide +kernel
theorem dX6_ifStarted_13 : decode cX6_ifStarted 13 = .ok (.aload_n 0, 1) := by decide +kernel
theorem dX6_ifStarted_14 : decode cX6_ifStarted 14 = .ok (.invokevirtual 136, 3) := by decide +kernel
theorem dX6_ifStarted_17 : decode cX6_ifStarted 17 = .ok (.istore_n 2, 1) := by decide +kernel
theorem dX6_ifStarted_18 : decode cX6_ifStarted 18 = .ok (.aload_n 0, 1) := by decide +kernel
theorem dX6_ifStarted_19 : decode cX6_ifStarted 19 = .ok (.iload_n 1, 1) := by decide +kernel
theorem dX6_ifStarted_20 : decode cX6_ifStarted 20 = .ok (.ifCond .eq 7, 3) := by decide +kernel
theorem dX6_ifStarted_23 : decode cX6_ifStarted 23 = .ok (.iconst 2, 1) := by decide +kernel
theorem dX6_ifStarted_24 : decode cX6_ifStarted 24 = .ok (.goto 4, 3) := by decide +kernel
theorem dX6_ifStarted_27 : decode cX6_ifStarted 27 = .ok (.iconst 0, 1) := by decide +kernel
theorem dX6_ifStarted_28 : decode cX6_ifStarted 28 = .ok (.invokevirtual 87, 3) := by decide +kernel
theorem dX6_ifStarted_31 : decode cX6_ifStarted 31 = .ok (.aload_n 0, 1) := by decide +kernel
theorem dX6_ifStarted_32 : decode cX6_ifStarted 32 = .ok (.getfield 7, 3) := by decide +kernel
theorem dX6_ifStarted_35 : decode cX6_ifStarted 35 = .ok (.iconst 3, 1) := by decide +kernel
theorem dX6_ifStarted_36 : decode cX6_ifStarted 36 = .ok (.iaload, 1) := by decide +kernel
theorem dX6_ifStarted_37 : decode cX6_ifStarted 37 = .ok (.bipush 10, 2) := by decide +kernel
theorem dX6_ifStarted_39 : decode cX6_ifStarted 39 = .ok (.aload_n 0, 1) := by decide +kernel
theorem dX6_ifStarted_40 : decode cX6_ifStarted 40 = .ok (.invokevirtual 136, 3) := by decide +kernel
theorem dX6_ifStarted_43 : decode cX6_ifStarted 43 = .ok (.iload_n 2, 1) := by decide +kernel
theorem dX6_ifStarted_44 : decode cX6_ifStarted 44 = .ok (.isub, 1) := by decide +kernel
theorem dX6_ifStarted_45 : decode cX6_ifStarted 45 = .ok (.imul, 1) := by decide +kernel
theorem dX6_ifStarted_46 : decode cX6_ifStarted 46 = .ok (.iadd, 1) := by decide +kernel
theorem dX6_ifStarted_47 : decode cX6_ifStarted 47 = .ok (.istore_n 3, 1) := by decide +kernel
theorem dX6_ifStarted_48 : decode cX6_ifStarted 48 = .ok (.aload_n 0, 1) := by decide +kernel
theorem dX6_ifStarted_49 : decode cX6_ifStarted 49 = .ok (.getfield 13, 3) := by decide +kernel
theorem dX6_ifStarted_52 : decode cX6_ifStarted 52 = .ok (.iconst 0, 1) := by decide +kernel
theorem dX6_ifStarted_53 : decode cX6_ifStarted 53 = .ok (.aload_n 0, 1) := by decide +kernel
theorem dX6_ifStarted_54 : decode cX6_ifStarted 54 = .ok (.getfield 7, 3) := by decide +kernel
theorem dX6_ifStarted_57 : decode cX6_ifStarted 57 = .ok (.iconst 0, 1) := by decide +kernel
theorem dX6_ifStarted_58 : decode cX6_ifStarted 58 = .ok (.invokestatic 36, 3) := by decide +kernel
theorem dX6_ifStarted_61 : decode cX6_ifStarted 61 = .ok (.iload_n 3, 1) := by decide +kernel
theorem dX6_ifStarted_62 : decode cX6_ifStarted 62 = .ok (.ireturn, 1) := by decide +kernel
theorem dX6_ifPassed_0 : decode cX6_ifPassed 0 = .ok (.iload_n 1, 1) := by decide +kernel
theorem dX6_ifPassed_1 : decode cX6_ifPassed 1 = .ok (.iconst 1, 1) := by decide +kernel
theorem dX6_ifPassed_2 : decode cX6_ifPassed 2 = .ok (.sipush 500, 3) := by decide +kernel
theorem dX6_ifPassed_5 : decode cX6_ifPassed 5 = .ok (.invokestatic 40, 3) := by decide +kernel
theorem dX6_ifPassed_8 : decode cX6_ifPassed 8 = .ok (.ifCond .eq 12, 3) := by decide +kernel
theorem dX6_ifPassed_11 : decode cX6_ifPassed 11 = .ok (.iload_n 2, 1) := by decide +kernel
theorem dX6_ifPassed_12 : decode cX6_ifPassed 12 = .ok (.iconst 0, 1) := by decide +kernel
theorem dX6_ifPassed_13 : decode cX6_ifPassed 13 = .ok (.iconst 3, 1) := by decide +kernel
theorem dX6_ifPassed_14 : decode cX6_ifPassed 14 = .ok (.invokestatic 40, 3) := by decide +kernel
theorem dX6_ifPassed_17 : decode cX6_ifPassed 17 = .ok (.ifCond .ne 6, 3) := by decide +kernel
theorem dX6_ifPassed_20 : decode cX6_ifPassed 20 = .ok (.bipush (-2), 2) := by decide +kernel
theorem dX6_ifPassed_22 : decode cX6_ifPassed 22 = .ok (.ireturn, 1) := by decide +kernel
theorem dX6_ifPassed_23 : decode cX6_ifPassed 23 = .ok (.aload_n 0, 1) := by decide +kernel
theorem dX6_ifPassed_24 : decode cX6_ifPassed 24 = .ok (.getfield 7, 3) := by decide +kernel
theorem dX6_ifPassed_27 : decode cX6_ifPassed 27 = .ok (.iconst 0, 1) := by decide +kernel
theorem dX6_ifPassed_28 : decode cX6_ifPassed 28 = .ok (.aload_n 0, 1) := by decide +kernel
theorem dX6_ifPassed_29 : decode cX6_ifPassed 29 = .ok (.getfield 13, 3) := by decide +kernel
theorem dX6_ifPassed_32 : decode cX6_ifPassed 32 = .ok (.iconst 0, 1) := by decide +kernel
theorem dX6_ifPassed_33 : decode cX6_ifPassed 33 = .ok (.invokestatic 36, 3) := by decide +kernel
theorem dX6_ifPassed_36 : decode cX6_ifPassed 36 = .ok (.aload_n 0, 1) := by decide +kernel
theorem dX6_ifPassed_37 : decode cX6_ifPassed 37 = .ok (.iload_n 1, 1) := by decide +kernel
theorem dX6_ifPassed_38 : decode cX6_ifPassed 38 = .ok (.invokevirtual 130, 3) := by decide +kernel
theorem dX6_ifPassed_41 : decode cX6_ifPassed 41 = .ok (.istore_n 3, 1) := by decide +kernel
theorem dX6_ifPassed_42 : decode cX6_ifPassed 42 = .ok (.iload_n 2, 1) := by decide +kernel
theorem dX6_ifPassed_43 : decode cX6_ifPassed 43 = .ok (.ifCond .ne 7, 3) := by decide +kernel
theorem dX6_ifPassed_46 : decode cX6_ifPassed 46 = .ok (.iload_n 3, 1) := by decide +kernel
theorem dX6_ifPassed_47 : decode cX6_ifPassed 47 = .ok (.goto 25, 3) := by decide +kernel
theorem dX6_ifPassed_50 : decode cX6_ifPassed 50 = .ok (.iload_n 2, 1) := by decide +kernel
theorem dX6_ifPassed_51 : decode cX6_ifPassed 51 = .ok (.iconst 1, 1) := by decide +kernel
theorem dX6_ifPassed_52 : decode cX6_ifPassed 52 = .ok (.if_icmp .ne 12, 3) := by decide +kernel
theorem dX6_ifPassed_55 : decode cX6_ifPassed 55 = .ok (.aload_n 0, 1) := by decide +kernel
theorem dX6_ifPassed_56 : decode cX6_ifPassed 56 = .ok (.getfield 7, 3) := by decide +kernel
theorem dX6_ifPassed_59 : decode cX6_ifPassed 59 = .ok (.iconst 3, 1) := by decide +kernel
theorem dX6_ifPassed_60 : decode cX6_ifPassed 60 = .ok (.iaload, 1) := by decide +kernel
theorem dX6_ifPassed_61 : decode cX6_ifPassed 61 = .ok (.goto 11, 3) := by decide +kernel
theorem dX6_ifPassed_64 : decode cX6_ifPassed 64 = .ok (.aload_n 0, 1) := by decide +kernel
theorem dX6_ifPassed_65 : decode cX6_ifPassed 65 = .ok (.iload_n 2, 1) := by decide +kernel
theorem dX6_ifPassed_66 : decode cX6_ifPassed 66 = .ok (.iconst 2, 1) := by decide +kernel
theorem dX6_ifPassed_67 : decode cX6_ifPassed 67 = .ok (.isub, 1) := by decide +kernel
theorem dX6_ifPassed_68 : decode cX6_ifPassed 68 = .ok (.iconst 0, 1) := by decide +kernel
theorem dX6_ifPassed_69 : decode cX6_ifPassed 69 = .ok (.invokevirtual 44, 3) := by decide +kernel
theorem dX6_ifPassed_72 : decode cX6_ifPassed 72 = .ok (.istore 4, 2) := by decide +kernel
theorem dX6_ifPassed_74 : decode cX6_ifPassed 74 = .ok (.aload_n 0, 1) := by decide +kernel
theorem dX6_ifPassed_75 : decode cX6_ifPassed 75 = .ok (.getfield 13, 3) := by decide +kernel
theorem dX6_ifPassed_78 : decode cX6_ifPassed 78 = .ok (.iconst 0, 1) := by decide +kernel
theorem dX6_ifPassed_79 : decode cX6_ifPassed 79 = .ok (.aload_n 0, 1) := by decide +kernel
theorem dX6_ifPassed_80 : decode cX6_ifPassed 80 = .ok (.getfield 7, 3) := by decide +kernel
theorem dX6_ifPassed_83 : decode cX6_ifPassed 83 = .ok (.iconst 0, 1) := by decide +kernel
theorem dX6_ifPassed_84 : decode cX6_ifPassed 84 = .ok (.invokestatic 36, 3) := by decide +kernel
theorem dX6_ifPassed_87 : decode cX6_ifPassed 87 = .ok (.iload 4, 2) := by decide +kernel
theorem dX6_ifPassed_89 : decode cX6_ifPassed 89 = .ok (.ireturn, 1) := by decide +kernel
theorem dX6_nextStart_0 : decode cX6_nextStart 0 = .ok (.aload_n 0, 1) := by decide +kernel
theorem dX6_nextStart_1 : decode cX6_nextStart 1 = .ok (.getfield 7, 3) := by decide +kernel
theorem dX6_nextStart_4 : decode cX6_nextStart 4 = .ok (.iconst 0, 1) := by decide +kernel
theorem dX6_nextStart_5 : decode cX6_nextStart 5 = .ok (.aload_n 0, 1) := by decide +kernel
theorem dX6_nextStart_6 : decode cX6_nextStart 6 = .ok (.getfield 13, 3) := by decide +kernel
theorem dX6_nextStart_9 : decode cX6_nextStart 9 = .ok (.iconst 0, 1) := by decide +kernel
theorem dX6_nextStart_10 : decode cX6_nextStart 10 = .ok (.invokestatic 36, 3) := by decide +kernel
theorem dX6_nextStart_13 : decode cX6_nextStart 13 = .ok (.iconst 0, 1) := by decide +kernel
theorem dX6_nextStart_14 : decode cX6_nextStart 14 = .ok (.istore_n 1, 1) := by decide +kernel
theorem dX6_nextStart_15 : decode cX6_nextStart 15 = .ok (.iconst 0, 1) := by decide +kernel
theorem dX6_nextStart_16 : decode cX6_nextStart 16 = .ok (.istore_n 2, 1) := by decide +kernel
theorem dX6_nextStart_17 : decode cX6_nextStart 17 = .ok (.iload_n 2, 1) := by decide +kernel
theorem dX6_nextStart_18 : decode cX6_nextStart 18 = .ok (.ifCond .ne 21, 3) := by decide +kernel
theorem dX6_nextStart_21 : decode cX6_nextStart 21 = .ok (.iload_n 1, 1) := by decide +kernel
theorem dX6_nextStart_22 : decode cX6_nextStart 22 = .ok (.sipush 2000, 3) := by decide +kernel
theorem dX6_nextStart_25 : decode cX6_nextStart 25 = .ok (.if_icmp .ge 14, 3) := by decide +kernel
theorem dX6_nextStart_28 : decode cX6_nextStart 28 = .ok (.aload_n 0, 1) := by decide +kernel
theorem dX6_nextStart_29 : decode cX6_nextStart 29 = .ok (.invokevirtual 90, 3) := by decide +kernel
theorem dX6_nextStart_32 : decode cX6_nextStart 32 = .ok (.istore_n 2, 1) := by decide +kernel
theorem dX6_nextStart_33 : decode cX6_nextStart 33 = .ok (.iinc 1 1, 3) := by decide +kernel
theorem dX6_nextStart_36 : decode cX6_nextStart 36 = .ok (.goto (-19), 3) := by decide +kernel
theorem dX6_nextStart_39 : decode cX6_nextStart 39 = .ok (.aload_n 0, 1) := by decide +kernel
theorem dX6_nextStart_40 : decode cX6_nextStart 40 = .ok (.getfield 13, 3) := by decide +kernel
theorem dX6_nextStart_43 : decode cX6_nextStart 43 = .ok (.iconst 0, 1) := by decide +kernel
theorem dX6_nextStart_44 : decode cX6_nextStart 44 = .ok (.aload_n 0, 1) := by decide +kernel
theorem dX6_nextStart_45 : decode cX6_nextStart 45 = .ok (.getfield 7, 3) := by decide +kernel
theorem dX6_nextStart_48 : decode cX6_nextStart 48 = .ok (.iconst 0, 1) := by decide +kernel
theorem dX6_nextStart_49 : decode cX6_nextStart 49 = .ok (.invokestatic 36, 3) := by decide +kernel
theorem dX6_nextStart_52 : decode cX6_nextStart 52 = .ok (.iload_n 2, 1) := by decide +kernel
theorem dX6_nextStart_53 : decode cX6_nextStart 53 = .ok (.ifCond .eq 7, 3) := by decide +kernel
theorem dX6_nextStart_56 : decode cX6_nextStart 56 = .ok (.iload_n 1, 1) := by decide +kernel
theorem dX6_nextStart_57 : decode cX6_nextStart 57 = .ok (.goto 5, 3) := by decide +kernel
theorem dX6_nextStart_60 : decode cX6_nextStart 60 = .ok (.bipush (-6), 2) := by decide +kernel
theorem dX6_nextStart_62 : decode cX6_nextStart 62 = .ok (.ireturn, 1) := by decide +kernel
theorem dX6_lasts_0 : decode cX6_lasts 0 = .ok (.iload_n 1, 1) := by decide +kernel
theorem dX6_lasts_1 : decode cX6_lasts 1 = .ok (.invokestatic 99, 3) := by decide +kernel
theorem dX6_lasts_4 : decode cX6_lasts 4 = .ok (.ifCond .ne 5, 3) := by decide +kernel
theorem dX6_lasts_7 : decode cX6_lasts 7 = .ok (.iconst (-1), 1) := by decide +kernel
theorem dX6_lasts_8 : decode cX6_lasts 8 = .ok (.ireturn, 1) := by decide +kernel
theorem dX6_lasts_9 : decode cX6_lasts 9 = .ok (.iload_n 2, 1) := by decide +kernel
theorem dX6_lasts_10 : decode cX6_lasts 10 = .ok (.iconst 2, 1) := by decide +kernel
theorem dX6_lasts_11 : decode cX6_lasts 11 = .ok (.bipush 32, 2) := by decide +kernel
theorem dX6_lasts_13 : decode cX6_lasts 13 = .ok (.invokestatic 40, 3) := by decide +kernel
theorem dX6_lasts_16 : decode cX6_lasts 16 = .ok (.ifCond .ne 6, 3) := by decide +kernel
theorem dX6_lasts_19 : decode cX6_lasts 19 = .ok (.bipush (-2), 2) := by decide +kernel
theorem dX6_lasts_21 : decode cX6_lasts 21 = .ok (.ireturn, 1) := by decide +kernel
theorem dX6_lasts_22 : decode cX6_lasts 22 = .ok (.aload_n 0, 1) := by decide +kernel
theorem dX6_lasts_23 : decode cX6_lasts 23 = .ok (.getfield 7, 3) := by decide +kernel
theorem dX6_lasts_26 : decode cX6_lasts 26 = .ok (.iconst 2, 1) := by decide +kernel
theorem dX6_lasts_27 : decode cX6_lasts 27 = .ok (.iaload, 1) := by decide +kernel
theorem dX6_lasts_28 : decode cX6_lasts 28 = .ok (.aload_n 0, 1) := by decide +kernel
theorem dX6_lasts_29 : decode cX6_lasts 29 = .ok (.iload_n 1, 1) := by decide +kernel
theorem dX6_lasts_30 : decode cX6_lasts 30 = .ok (.iload_n 2, 1) := by decide +kernel
theorem dX6_lasts_31 : decode cX6_lasts 31 = .ok (.invokestatic 102, 3) := by decide +kernel
theorem dX6_lasts_34 : decode cX6_lasts 34 = .ok (.invokevirtual 112, 3) := by decide +kernel
theorem dX6_lasts_37 : decode cX6_lasts 37 = .ok (.isub, 1) := by decide +kernel
theorem dX6_lasts_38 : decode cX6_lasts 38 = .ok (.istore_n 3, 1) := by decide +kernel
theorem dX6_lasts_39 : decode cX6_lasts 39 = .ok (.iload_n 3, 1) := by decide +kernel
theorem dX6_lasts_40 : decode cX6_lasts 40 = .ok (.ifCond .ge 7, 3) := by decide +kernel
theorem dX6_lasts_43 : decode cX6_lasts 43 = .ok (.iconst 0, 1) := by decide +kernel
theorem dX6_lasts_44 : decode cX6_lasts 44 = .ok (.goto 4, 3) := by decide +kernel
theorem dX6_lasts_47 : decode cX6_lasts 47 = .ok (.iload_n 3, 1) := by decide +kernel
theorem dX6_lasts_48 : decode cX6_lasts 48 = .ok (.ireturn, 1) := by decide +kernel
theorem dX6_put_0 : decode cX6_put 0 = .ok (.iconst 0, 1) := by decide +kernel
theorem dX6_put_1 : decode cX6_put 1 = .ok (.istore_n 3, 1) := by decide +kernel
theorem dX6_put_2 : decode cX6_put 2 = .ok (.lload_n 1, 1) := by decide +kernel
theorem dX6_put_3 : decode cX6_put 3 = .ok (.lstore 4, 2) := by decide +kernel
theorem dX6_put_5 : decode cX6_put 5 = .ok (.iconst 1, 1) := by decide +kernel
theorem dX6_put_6 : decode cX6_put 6 = .ok (.istore 6, 2) := by decide +kernel
theorem dX6_put_8 : decode cX6_put 8 = .ok (.iload_n 3, 1) := by decide +kernel
theorem dX6_put_9 : decode cX6_put 9 = .ok (.bipush 8, 2) := by decide +kernel
theorem dX6_put_11 : decode cX6_put 11 = .ok (.if_icmp .ge 56, 3) := by decide +kernel
theorem dX6_put_14 : decode cX6_put 14 = .ok (.lload 4, 2) := by decide +kernel
theorem dX6_put_16 : decode cX6_put 16 = .ok (.ldc2_w 139, 3) := by decide +kernel
theorem dX6_put_19 : decode cX6_put 19 = .ok (.land, 1) := by decide +kernel
theorem dX6_put_20 : decode cX6_put 20 = .ok (.lconst 0, 1) := by decide +kernel
theorem dX6_put_21 : decode cX6_put 21 = .ok (.lcmp, 1) := by decide +kernel
theorem dX6_put_22 : decode cX6_put 22 = .ok (.ifCond .eq 45, 3) := by decide +kernel
theorem dX6_put_25 : decode cX6_put 25 = .ok (.iload 6, 2) := by decide +kernel
theorem dX6_put_27 : decode cX6_put 27 = .ok (.ifCond .eq 24, 3) := by decide +kernel
theorem dX6_put_30 : decode cX6_put 30 = .ok (.lload 4, 2) := by decide +kernel
theorem dX6_put_32 : decode cX6_put 32 = .ok (.ldc2_w 139, 3) := by decide +kernel
theorem dX6_put_35 : decode cX6_put 35 = .ok (.land, 1) := by decide +kernel
theorem dX6_put_36 : decode cX6_put 36 = .ok (.l2i, 1) := by decide +kernel
theorem dX6_put_37 : decode cX6_put 37 = .ok (.bipush 33, 2) := by decide +kernel
theorem dX6_put_39 : decode cX6_put 39 = .ok (.bipush 126, 2) := by decide +kernel
theorem dX6_put_41 : decode cX6_put 41 = .ok (.invokestatic 40, 3) := by decide +kernel
theorem dX6_put_44 : decode cX6_put 44 = .ok (.ifCond .eq 7, 3) := by decide +kernel
theorem dX6_put_47 : decode cX6_put 47 = .ok (.iconst 1, 1) := by decide +kernel
theorem dX6_put_48 : decode cX6_put 48 = .ok (.goto 4, 3) := by decide +kernel
theorem dX6_put_51 : decode cX6_put 51 = .ok (.iconst 0, 1) := by decide +kernel
theorem dX6_put_52 : decode cX6_put 52 = .ok (.istore 6, 2) := by decide +kernel
theorem dX6_put_54 : decode cX6_put 54 = .ok (.lload 4, 2) := by decide +kernel
theorem dX6_put_56 : decode cX6_put 56 = .ok (.bipush 8, 2) := by decide +kernel
theorem dX6_put_58 : decode cX6_put 58 = .ok (.lushr, 1) := by decide +kernel
theorem dX6_put_59 : decode cX6_put 59 = .ok (.lstore 4, 2) := by decide +kernel
theorem dX6_put_61 : decode cX6_put 61 = .ok (.iinc 3 1, 3) := by decide +kernel
theorem dX6_put_64 : decode cX6_put 64 = .ok (.goto (-56), 3) := by decide +kernel
theorem dX6_put_67 : decode cX6_put 67 = .ok (.iload_n 3, 1) := by decide +kernel
theorem dX6_put_68 : decode cX6_put 68 = .ok (.ifCond .eq 15, 3) := by decide +kernel
theorem dX6_put_71 : decode cX6_put 71 = .ok (.iload 6, 2) := by decide +kernel
theorem dX6_put_73 : decode cX6_put 73 = .ok (.ifCond .eq 10, 3) := by decide +kernel
theorem dX6_put_76 : decode cX6_put 76 = .ok (.lload 4, 2) := by decide +kernel
theorem dX6_put_78 : decode cX6_put 78 = .ok (.lconst 0, 1) := by decide +kernel
theorem dX6_put_79 : decode cX6_put 79 = .ok (.lcmp, 1) := by decide +kernel
theorem dX6_put_80 : decode cX6_put 80 = .ok (.ifCond .eq 6, 3) := by decide +kernel
theorem dX6_put_83 : decode cX6_put 83 = .ok (.bipush (-2), 2) := by decide +kernel
theorem dX6_put_85 : decode cX6_put 85 = .ok (.ireturn, 1) := by decide +kernel
theorem dX6_put_86 : decode cX6_put 86 = .ok (.aload_n 0, 1) := by decide +kernel
theorem dX6_put_87 : decode cX6_put 87 = .ok (.getfield 124, 3) := by decide +kernel
theorem dX6_put_90 : decode cX6_put 90 = .ok (.iload_n 3, 1) := by decide +kernel
theorem dX6_put_91 : decode cX6_put 91 = .ok (.iadd, 1) := by decide +kernel
theorem dX6_put_92 : decode cX6_put 92 = .ok (.bipush 64, 2) := by decide +kernel
theorem dX6_put_94 : decode cX6_put 94 = .ok (.if_icmp .le 6, 3) := by decide +kernel
theorem dX6_put_97 : decode cX6_put 97 = .ok (.bipush (-4), 2) := by decide +kernel
theorem dX6_put_99 : decode cX6_put 99 = .ok (.ireturn, 1) := by decide +kernel
theorem dX6_put_100 : decode cX6_put 100 = .ok (.iload_n 3, 1) := by decide +kernel
theorem dX6_put_101 : decode cX6_put 101 = .ok (.iconst 1, 1) := by decide +kernel
theorem dX6_put_102 : decode cX6_put 102 = .ok (.isub, 1) := by decide +kernel
theorem dX6_put_103 : decode cX6_put 103 = .ok (.istore 7, 2) := by decide +kernel
theorem dX6_put_105 : decode cX6_put 105 = .ok (.iload 7, 2) := by decide +kernel
theorem dX6_put_107 : decode cX6_put 107 = .ok (.ifCond .lt 40, 3) := by decide +kernel
theorem dX6_put_110 : decode cX6_put 110 = .ok (.aload_n 0, 1) := by decide +kernel
theorem dX6_put_111 : decode cX6_put 111 = .ok (.getfield 25, 3) := by decide +kernel
theorem dX6_put_114 : decode cX6_put 114 = .ok (.aload_n 0, 1) := by decide +kernel
theorem dX6_put_115 : decode cX6_put 115 = .ok (.getfield 124, 3) := by decide +kernel
theorem dX6_put_118 : decode cX6_put 118 = .ok (.lload_n 1, 1) := by decide +kernel
theorem dX6_put_119 : decode cX6_put 119 = .ok (.bipush 8, 2) := by decide +kernel
theorem dX6_put_121 : decode cX6_put 121 = .ok (.iload 7, 2) := by decide +kernel
theorem dX6_put_123 : decode cX6_put 123 = .ok (.imul, 1) := by decide +kernel
theorem dX6_put_124 : decode cX6_put 124 = .ok (.lushr, 1) := by decide +kernel
theorem dX6_put_125 : decode cX6_put 125 = .ok (.ldc2_w 139, 3) := by decide +kernel
theorem dX6_put_128 : decode cX6_put 128 = .ok (.land, 1) := by decide +kernel
theorem dX6_put_129 : decode cX6_put 129 = .ok (.l2i, 1) := by decide +kernel
theorem dX6_put_130 : decode cX6_put 130 = .ok (.iastore, 1) := by decide +kernel
theorem dX6_put_131 : decode cX6_put 131 = .ok (.aload_n 0, 1) := by decide +kernel
theorem dX6_put_132 : decode cX6_put 132 = .ok (.dup, 1) := by decide +kernel
theorem dX6_put_133 : decode cX6_put 133 = .ok (.getfield 124, 3) := by decide +kernel
theorem dX6_put_136 : decode cX6_put 136 = .ok (.iconst 1, 1) := by decide +kernel
theorem dX6_put_137 : decode cX6_put 137 = .ok (.iadd, 1) := by decide +kernel
theorem dX6_put_138 : decode cX6_put 138 = .ok (.putfield 124, 3) := by decide +kernel
theorem dX6_put_141 : decode cX6_put 141 = .ok (.iinc 7 (-1), 3) := by decide +kernel
theorem dX6_put_144 : decode cX6_put 144 = .ok (.goto (-39), 3) := by decide +kernel
theorem dX6_put_147 : decode cX6_put 147 = .ok (.aload_n 0, 1) := by decide +kernel
theorem dX6_put_148 : decode cX6_put 148 = .ok (.getfield 124, 3) := by decide +kernel
theorem dX6_put_151 : decode cX6_put 151 = .ok (.ireturn, 1) := by decide +kernel
theorem dX6_wipe_0 : decode cX6_wipe 0 = .ok (.aload_n 0, 1) := by decide +kernel
theorem dX6_wipe_1 : decode cX6_wipe 1 = .ok (.getfield 124, 3) := by decide +kernel
theorem dX6_wipe_4 : decode cX6_wipe 4 = .ok (.istore_n 1, 1) := by decide +kernel
theorem dX6_wipe_5 : decode cX6_wipe 5 = .ok (.aload_n 0, 1) := by decide +kernel
theorem dX6_wipe_6 : decode cX6_wipe 6 = .ok (.iconst 0, 1) := by decide +kernel
theorem dX6_wipe_7 : decode cX6_wipe 7 = .ok (.putfield 124, 3) := by decide +kernel
theorem dX6_wipe_10 : decode cX6_wipe 10 = .ok (.iload_n 1, 1) := by decide +kernel
theorem dX6_wipe_11 : decode cX6_wipe 11 = .ok (.ireturn, 1) := by decide +kernel
theorem dX6_digitOf_0 : decode cX6_digitOf 0 = .ok (.iload_n 0, 1) := by decide +kernel
theorem dX6_digitOf_1 : decode cX6_digitOf 1 = .ok (.bipush 48, 2) := by decide +kernel
theorem dX6_digitOf_3 : decode cX6_digitOf 3 = .ok (.bipush 57, 2) := by decide +kernel
theorem dX6_digitOf_5 : decode cX6_digitOf 5 = .ok (.invokestatic 40, 3) := by decide +kernel
theorem dX6_digitOf_8 : decode cX6_digitOf 8 = .ok (.ifCond .eq 10, 3) := by decide +kernel
theorem dX6_digitOf_11 : decode cX6_digitOf 11 = .ok (.iload_n 0, 1) := by decide +kernel
theorem dX6_digitOf_12 : decode cX6_digitOf 12 = .ok (.bipush 48, 2) := by decide +kernel
theorem dX6_digitOf_14 : decode cX6_digitOf 14 = .ok (.isub, 1) := by decide +kernel
theorem dX6_digitOf_15 : decode cX6_digitOf 15 = .ok (.goto 26, 3) := by decide +kernel
theorem dX6_digitOf_18 : decode cX6_digitOf 18 = .ok (.iload_n 0, 1) := by decide +kernel
theorem dX6_digitOf_19 : decode cX6_digitOf 19 = .ok (.bipush 97, 2) := by decide +kernel
theorem dX6_digitOf_21 : decode cX6_digitOf 21 = .ok (.bipush 102, 2) := by decide +kernel
theorem dX6_digitOf_23 : decode cX6_digitOf 23 = .ok (.invokestatic 40, 3) := by decide +kernel
theorem dX6_digitOf_26 : decode cX6_digitOf 26 = .ok (.ifCond .eq 13, 3) := by decide +kernel
theorem dX6_digitOf_29 : decode cX6_digitOf 29 = .ok (.iload_n 0, 1) := by decide +kernel
theorem dX6_digitOf_30 : decode cX6_digitOf 30 = .ok (.bipush 97, 2) := by decide +kernel
theorem dX6_digitOf_32 : decode cX6_digitOf 32 = .ok (.isub, 1) := by decide +kernel
theorem dX6_digitOf_33 : decode cX6_digitOf 33 = .ok (.bipush 10, 2) := by decide +kernel
theorem dX6_digitOf_35 : decode cX6_digitOf 35 = .ok (.iadd, 1) := by decide +kernel
theorem dX6_digitOf_36 : decode cX6_digitOf 36 = .ok (.goto 5, 3) := by decide +kernel
theorem dX6_digitOf_39 : decode cX6_digitOf 39 = .ok (.bipush (-6), 2) := by decide +kernel
theorem dX6_digitOf_41 : decode cX6_digitOf 41 = .ok (.ireturn, 1) := by decide +kernel
theorem dX6_padWord_0 : decode cX6_padWord 0 = .ok (.bipush 16, 2) := by decide +kernel
theorem dX6_padWord_2 : decode cX6_padWord 2 = .ok (.aload_n 0, 1) := by decide +kernel
theorem dX6_padWord_3 : decode cX6_padWord 3 = .ok (.getfield 25, 3) := by decide +kernel
theorem dX6_padWord_6 : decode cX6_padWord 6 = .ok (.iconst 2, 1) := by decide +kernel
theorem dX6_padWord_7 : decode cX6_padWord 7 = .ok (.iload_n 1, 1) := by decide +kernel
theorem dX6_padWord_8 : decode cX6_padWord 8 = .ok (.imul, 1) := by decide +kernel
theorem dX6_padWord_9 : decode cX6_padWord 9 = .ok (.iaload, 1) := by decide +kernel
theorem dX6_padWord_10 : decode cX6_padWord 10 = .ok (.invokestatic 141, 3) := by decide +kernel
theorem dX6_padWord_13 : decode cX6_padWord 13 = .ok (.imul, 1) := by decide +kernel
theorem dX6_padWord_14 : decode cX6_padWord 14 = .ok (.aload_n 0, 1) := by decide +kernel
theorem dX6_padWord_15 : decode cX6_padWord 15 = .ok (.getfield 25, 3) := by decide +kernel
theorem dX6_padWord_18 : decode cX6_padWord 18 = .ok (.iconst 2, 1) := by decide +kernel
theorem dX6_padWord_19 : decode cX6_padWord 19 = .ok (.iload_n 1, 1) := by decide +kernel
theorem dX6_padWord_20 : decode cX6_padWord 20 = .ok (.imul, 1) := by decide +kernel
theorem dX6_padWord_21 : decode cX6_padWord 21 = .ok (.iconst 1, 1) := by decide +kernel
theorem dX6_padWord_22 : decode cX6_padWord 22 = .ok (.iadd, 1) := by decide +kernel
theorem dX6_padWord_23 : decode cX6_padWord 23 = .ok (.iaload, 1) := by decide +kernel
theorem dX6_padWord_24 : decode cX6_padWord 24 = .ok (.invokestatic 141, 3) := by decide +kernel
theorem dX6_padWord_27 : decode cX6_padWord 27 = .ok (.iadd, 1) := by decide +kernel
theorem dX6_padWord_28 : decode cX6_padWord 28 = .ok (.ireturn, 1) := by decide +kernel
theorem dX6_findFault_0 : decode cX6_findFault 0 = .ok (.iconst 0, 1) := by decide +kernel
theorem dX6_findFault_1 : decode cX6_findFault 1 = .ok (.istore_n 1, 1) := by decide +kernel
theorem dX6_findFault_2 : decode cX6_findFault 2 = .ok (.iload_n 1, 1) := by decide +kernel
theorem dX6_findFault_3 : decode cX6_findFault 3 = .ok (.aload_n 0, 1) := by decide +kernel
theorem dX6_findFault_4 : decode cX6_findFault 4 = .ok (.getfield 124, 3) := by decide +kernel
theorem dX6_findFault_7 : decode cX6_findFault 7 = .ok (.if_icmp .ge 25, 3) := by decide +kernel
theorem dX6_findFault_10 : decode cX6_findFault 10 = .ok (.aload_n 0, 1) := by decide +kernel
theorem dX6_findFault_11 : decode cX6_findFault 11 = .ok (.getfield 25, 3) := by decide +kernel
theorem dX6_findFault_14 : decode cX6_findFault 14 = .ok (.iload_n 1, 1) := by decide +kernel
theorem dX6_findFault_15 : decode cX6_findFault 15 = .ok (.iaload, 1) := by decide +kernel
theorem dX6_findFault_16 : decode cX6_findFault 16 = .ok (.invokestatic 141, 3) := by decide +kernel
theorem dX6_findFault_19 : decode cX6_findFault 19 = .ok (.bipush (-6), 2) := by decide +kernel
theorem dX6_findFault_21 : decode cX6_findFault 21 = .ok (.if_icmp .ne 5, 3) := by decide +kernel
theorem dX6_findFault_24 : decode cX6_findFault 24 = .ok (.iload_n 1, 1) := by decide +kernel
theorem dX6_findFault_25 : decode cX6_findFault 25 = .ok (.ireturn, 1) := by decide +kernel
theorem dX6_findFault_26 : decode cX6_findFault 26 = .ok (.iinc 1 1, 3) := by decide +kernel
theorem dX6_findFault_29 : decode cX6_findFault 29 = .ok (.goto (-27), 3) := by decide +kernel
theorem dX6_findFault_32 : decode cX6_findFault 32 = .ok (.aload_n 0, 1) := by decide +kernel
theorem dX6_findFault_33 : decode cX6_findFault 33 = .ok (.getfield 124, 3) := by decide +kernel
theorem dX6_findFault_36 : decode cX6_findFault 36 = .ok (.ifCond .le 17, 3) := by decide +kernel
theorem dX6_findFault_39 : decode cX6_findFault 39 = .ok (.aload_n 0, 1) := by decide +kernel
theorem dX6_findFault_40 : decode cX6_findFault 40 = .ok (.getfield 124, 3) := by decide +kernel
theorem dX6_findFault_43 : decode cX6_findFault 43 = .ok (.iconst 2, 1) := by decide +kernel
theorem dX6_findFault_44 : decode cX6_findFault 44 = .ok (.irem, 1) := by decide +kernel
theorem dX6_findFault_45 : decode cX6_findFault 45 = .ok (.ifCond .ne 8, 3) := by decide +kernel
theorem dX6_findFault_48 : decode cX6_findFault 48 = .ok (.bipush (-6), 2) := by decide +kernel
theorem dX6_findFault_50 : decode cX6_findFault 50 = .ok (.goto 7, 3) := by decide +kernel
theorem dX6_findFault_53 : decode cX6_findFault 53 = .ok (.aload_n 0, 1) := by decide +kernel
theorem dX6_findFault_54 : decode cX6_findFault 54 = .ok (.getfield 124, 3) := by decide +kernel
theorem dX6_findFault_57 : decode cX6_findFault 57 = .ok (.ireturn, 1) := by decide +kernel
theorem dX6_fault_0 : decode cX6_fault 0 = .ok (.aload_n 0, 1) := by decide +kernel
theorem dX6_fault_1 : decode cX6_fault 1 = .ok (.invokevirtual 121, 3) := by decide +kernel
theorem dX6_fault_4 : decode cX6_fault 4 = .ok (.ireturn, 1) := by decide +kernel
theorem dX6_undo_0 : decode cX6_undo 0 = .ok (.aload_n 0, 1) := by decide +kernel
theorem dX6_undo_1 : decode cX6_undo 1 = .ok (.getfield 32, 3) := by decide +kernel
theorem dX6_undo_4 : decode cX6_undo 4 = .ok (.ifCond .ne 6, 3) := by decide +kernel
theorem dX6_undo_7 : decode cX6_undo 7 = .ok (.bipush (-5), 2) := by decide +kernel
theorem dX6_undo_9 : decode cX6_undo 9 = .ok (.ireturn, 1) := by decide +kernel
theorem dX6_undo_10 : decode cX6_undo 10 = .ok (.aload_n 0, 1) := by decide +kernel
theorem dX6_undo_11 : decode cX6_undo 11 = .ok (.dup, 1) := by decide +kernel
theorem dX6_undo_12 : decode cX6_undo 12 = .ok (.getfield 32, 3) := by decide +kernel
theorem dX6_undo_15 : decode cX6_undo 15 = .ok (.iconst 1, 1) := by decide +kernel
theorem dX6_undo_16 : decode cX6_undo 16 = .ok (.isub, 1) := by decide +kernel
theorem dX6_undo_17 : decode cX6_undo 17 = .ok (.putfield 32, 3) := by decide +kernel
theorem dX6_undo_20 : decode cX6_undo 20 = .ok (.aload_n 0, 1) := by decide +kernel
theorem dX6_undo_21 : decode cX6_undo 21 = .ok (.getfield 16, 3) := by decide +kernel
theorem dX6_undo_24 : decode cX6_undo 24 = .ok (.aload_n 0, 1) := by decide +kernel
theorem dX6_undo_25 : decode cX6_undo 25 = .ok (.getfield 32, 3) := by decide +kernel
theorem dX6_undo_28 : decode cX6_undo 28 = .ok (.sipush 139, 3) := by decide +kernel
theorem dX6_undo_31 : decode cX6_undo 31 = .ok (.imul, 1) := by decide +kernel
theorem dX6_undo_32 : decode cX6_undo 32 = .ok (.aload_n 0, 1) := by decide +kernel
theorem dX6_undo_33 : decode cX6_undo 33 = .ok (.getfield 7, 3) := by decide +kernel
theorem dX6_undo_36 : decode cX6_undo 36 = .ok (.iconst 0, 1) := by decide +kernel
theorem dX6_undo_37 : decode cX6_undo 37 = .ok (.invokestatic 36, 3) := by decide +kernel
theorem dX6_undo_40 : decode cX6_undo 40 = .ok (.aload_n 0, 1) := by decide +kernel
theorem dX6_undo_41 : decode cX6_undo 41 = .ok (.getfield 32, 3) := by decide +kernel
theorem dX6_undo_44 : decode cX6_undo 44 = .ok (.ireturn, 1) := by decide +kernel
theorem dX6_save_0 : decode cX6_save 0 = .ok (.iload_n 1, 1) := by decide +kernel
theorem dX6_save_1 : decode cX6_save 1 = .ok (.iconst 0, 1) := by decide +kernel
theorem dX6_save_2 : decode cX6_save 2 = .ok (.iconst 1, 1) := by decide +kernel
theorem dX6_save_3 : decode cX6_save 3 = .ok (.invokestatic 40, 3) := by decide +kernel
theorem dX6_save_6 : decode cX6_save 6 = .ok (.ifCond .ne 6, 3) := by decide +kernel
theorem dX6_save_9 : decode cX6_save 9 = .ok (.bipush (-2), 2) := by decide +kernel
theorem dX6_save_11 : decode cX6_save 11 = .ok (.ireturn, 1) := by decide +kernel
theorem dX6_save_12 : decode cX6_save 12 = .ok (.aload_n 0, 1) := by decide +kernel
theorem dX6_save_13 : decode cX6_save 13 = .ok (.getfield 7, 3) := by decide +kernel
theorem dX6_save_16 : decode cX6_save 16 = .ok (.iconst 0, 1) := by decide +kernel
theorem dX6_save_17 : decode cX6_save 17 = .ok (.aload_n 0, 1) := by decide +kernel
theorem dX6_save_18 : decode cX6_save 18 = .ok (.getfield 19, 3) := by decide +kernel
theorem dX6_save_21 : decode cX6_save 21 = .ok (.sipush 139, 3) := by decide +kernel
theorem dX6_save_24 : decode cX6_save 24 = .ok (.iload_n 1, 1) := by decide +kernel
theorem dX6_save_25 : decode cX6_save 25 = .ok (.imul, 1) := by decide +kernel
theorem dX6_save_26 : decode cX6_save 26 = .ok (.invokestatic 36, 3) := by decide +kernel
theorem dX6_save_29 : decode cX6_save 29 = .ok (.aload_n 0, 1) := by decide +kernel
theorem dX6_save_30 : decode cX6_save 30 = .ok (.getfield 22, 3) := by decide +kernel
theorem dX6_save_33 : decode cX6_save 33 = .ok (.iload_n 1, 1) := by decide +kernel
theorem dX6_save_34 : decode cX6_save 34 = .ok (.iconst 1, 1) := by decide +kernel
theorem dX6_save_35 : decode cX6_save 35 = .ok (.iastore, 1) := by decide +kernel
theorem dX6_save_36 : decode cX6_save 36 = .ok (.aload_n 0, 1) := by decide +kernel
theorem dX6_save_37 : decode cX6_save 37 = .ok (.getfield 7, 3) := by decide +kernel
theorem dX6_save_40 : decode cX6_save 40 = .ok (.iconst 3, 1) := by decide +kernel
theorem dX6_save_41 : decode cX6_save 41 = .ok (.iaload, 1) := by decide +kernel
theorem dX6_save_42 : decode cX6_save 42 = .ok (.ireturn, 1) := by decide +kernel
theorem dX6_restore_0 : decode cX6_restore 0 = .ok (.iload_n 1, 1) := by decide +kernel
theorem dX6_restore_1 : decode cX6_restore 1 = .ok (.iconst 0, 1) := by decide +kernel
theorem dX6_restore_2 : decode cX6_restore 2 = .ok (.iconst 1, 1) := by decide +kernel
theorem dX6_restore_3 : decode cX6_restore 3 = .ok (.invokestatic 40, 3) := by decide +kernel
theorem dX6_restore_6 : decode cX6_restore 6 = .ok (.ifCond .ne 6, 3) := by decide +kernel
theorem dX6_restore_9 : decode cX6_restore 9 = .ok (.bipush (-2), 2) := by decide +kernel
theorem dX6_restore_11 : decode cX6_restore 11 = .ok (.ireturn, 1) := by decide +kernel
theorem dX6_restore_12 : decode cX6_restore 12 = .ok (.aload_n 0, 1) := by decide +kernel
theorem dX6_restore_13 : decode cX6_restore 13 = .ok (.getfield 22, 3) := by decide +kernel
theorem dX6_restore_16 : decode cX6_restore 16 = .ok (.iload_n 1, 1) := by decide +kernel
theorem dX6_restore_17 : decode cX6_restore 17 = .ok (.iaload, 1) := by decide +kernel
theorem dX6_restore_18 : decode cX6_restore 18 = .ok (.ifCond .ne 6, 3) := by decide +kernel
theorem dX6_restore_21 : decode cX6_restore 21 = .ok (.bipush (-5), 2) := by decide +kernel
theorem dX6_restore_23 : decode cX6_restore 23 = .ok (.ireturn, 1) := by decide +kernel
theorem dX6_restore_24 : decode cX6_restore 24 = .ok (.aload_n 0, 1) := by decide +kernel
theorem dX6_restore_25 : decode cX6_restore 25 = .ok (.invokevirtual 96, 3) := by decide +kernel
theorem dX6_restore_28 : decode cX6_restore 28 = .ok (.aload_n 0, 1) := by decide +kernel
theorem dX6_restore_29 : decode cX6_restore 29 = .ok (.getfield 19, 3) := by decide +kernel
theorem dX6_restore_32 : decode cX6_restore 32 = .ok (.sipush 139, 3) := by decide +kernel
theorem dX6_restore_35 : decode cX6_restore 35 = .ok (.iload_n 1, 1) := by decide +kernel
theorem dX6_restore_36 : decode cX6_restore 36 = .ok (.imul, 1) := by decide +kernel
theorem dX6_restore_37 : decode cX6_restore 37 = .ok (.aload_n 0, 1) := by decide +kernel
theorem dX6_restore_38 : decode cX6_restore 38 = .ok (.getfield 7, 3) := by decide +kernel
theorem dX6_restore_41 : decode cX6_restore 41 = .ok (.iconst 0, 1) := by decide +kernel
theorem dX6_restore_42 : decode cX6_restore 42 = .ok (.invokestatic 36, 3) := by decide +kernel
theorem dX6_restore_45 : decode cX6_restore 45 = .ok (.aload_n 0, 1) := by decide +kernel
theorem dX6_restore_46 : decode cX6_restore 46 = .ok (.getfield 7, 3) := by decide +kernel
theorem dX6_restore_49 : decode cX6_restore 49 = .ok (.iconst 3, 1) := by decide +kernel
theorem dX6_restore_50 : decode cX6_restore 50 = .ok (.iaload, 1) := by decide +kernel
theorem dX6_restore_51 : decode cX6_restore 51 = .ok (.ireturn, 1) := by decide +kernel

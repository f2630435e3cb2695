theorem dX0_init_0 : decode cX0_init 0 = .ok (.aload_n 0, 1) := by decide +kernel
theorem dX0_init_1 : decode cX0_init 1 = .ok (.invokespecial 3, 3) := by decide +kernel
theorem dX0_init_4 : decode cX0_init 4 = .ok (.aload_n 0, 1) := by decide +kernel
theorem dX0_init_5 : decode cX0_init 5 = .ok (.iconst 0, 1) := by decide +kernel
theorem dX0_init_6 : decode cX0_init 6 = .ok (.putfield 9, 3) := by decide +kernel
theorem dX0_init_9 : decode cX0_init 9 = .ok (.aload_n 0, 1) := by decide +kernel
theorem dX0_init_10 : decode cX0_init 10 = .ok (.bipush 32, 2) := by decide +kernel
theorem dX0_init_12 : decode cX0_init 12 = .ok (.newarray .int, 2) := by decide +kernel
theorem dX0_init_14 : decode cX0_init 14 = .ok (.putfield 15, 3) := by decide +kernel
theorem dX0_init_17 : decode cX0_init 17 = .ok (.aload_n 0, 1) := by decide +kernel
theorem dX0_init_18 : decode cX0_init 18 = .ok (.bipush 8, 2) := by decide +kernel
theorem dX0_init_20 : decode cX0_init 20 = .ok (.newarray .int, 2) := by decide +kernel
theorem dX0_init_22 : decode cX0_init 22 = .ok (.putfield 19, 3) := by decide +kernel
theorem dX0_init_25 : decode cX0_init 25 = .ok (.iconst 0, 1) := by decide +kernel
theorem dX0_init_26 : decode cX0_init 26 = .ok (.istore_n 1, 1) := by decide +kernel
theorem dX0_init_27 : decode cX0_init 27 = .ok (.iload_n 1, 1) := by decide +kernel
theorem dX0_init_28 : decode cX0_init 28 = .ok (.bipush 32, 2) := by decide +kernel
theorem dX0_init_30 : decode cX0_init 30 = .ok (.if_icmp .ge 18, 3) := by decide +kernel
theorem dX0_init_33 : decode cX0_init 33 = .ok (.aload_n 0, 1) := by decide +kernel
theorem dX0_init_34 : decode cX0_init 34 = .ok (.getfield 15, 3) := by decide +kernel
theorem dX0_init_37 : decode cX0_init 37 = .ok (.iload_n 1, 1) := by decide +kernel
theorem dX0_init_38 : decode cX0_init 38 = .ok (.sipush 255, 3) := by decide +kernel
theorem dX0_init_41 : decode cX0_init 41 = .ok (.iastore, 1) := by decide +kernel
theorem dX0_init_42 : decode cX0_init 42 = .ok (.iinc 1 1, 3) := by decide +kernel
theorem dX0_init_45 : decode cX0_init 45 = .ok (.goto (-18), 3) := by decide +kernel
theorem dX0_init_48 : decode cX0_init 48 = .ok (.return_, 1) := by decide +kernel
theorem dX0_copyFrom_0 : decode cX0_copyFrom 0 = .ok (.aload_n 0, 1) := by decide +kernel
theorem dX0_copyFrom_1 : decode cX0_copyFrom 1 = .ok (.aload_n 1, 1) := by decide +kernel
theorem dX0_copyFrom_2 : decode cX0_copyFrom 2 = .ok (.getfield 9, 3) := by decide +kernel
theorem dX0_copyFrom_5 : decode cX0_copyFrom 5 = .ok (.putfield 9, 3) := by decide +kernel
theorem dX0_copyFrom_8 : decode cX0_copyFrom 8 = .ok (.aload_n 0, 1) := by decide +kernel
theorem dX0_copyFrom_9 : decode cX0_copyFrom 9 = .ok (.aload_n 1, 1) := by decide +kernel
theorem dX0_copyFrom_10 : decode cX0_copyFrom 10 = .ok (.getfield 22, 3) := by decide +kernel
theorem dX0_copyFrom_13 : decode cX0_copyFrom 13 = .ok (.putfield 22, 3) := by decide +kernel
theorem dX0_copyFrom_16 : decode cX0_copyFrom 16 = .ok (.aload_n 0, 1) := by decide +kernel
theorem dX0_copyFrom_17 : decode cX0_copyFrom 17 = .ok (.aload_n 1, 1) := by decide +kernel
theorem dX0_copyFrom_18 : decode cX0_copyFrom 18 = .ok (.getfield 25, 3) := by decide +kernel
theorem dX0_copyFrom_21 : decode cX0_copyFrom 21 = .ok (.putfield 25, 3) := by decide +kernel
theorem dX0_copyFrom_24 : decode cX0_copyFrom 24 = .ok (.aload_n 0, 1) := by decide +kernel
theorem dX0_copyFrom_25 : decode cX0_copyFrom 25 = .ok (.aload_n 1, 1) := by decide +kernel
theorem dX0_copyFrom_26 : decode cX0_copyFrom 26 = .ok (.getfield 28, 3) := by decide +kernel
theorem dX0_copyFrom_29 : decode cX0_copyFrom 29 = .ok (.putfield 28, 3) := by decide +kernel
theorem dX0_copyFrom_32 : decode cX0_copyFrom 32 = .ok (.aload_n 0, 1) := by decide +kernel
theorem dX0_copyFrom_33 : decode cX0_copyFrom 33 = .ok (.aload_n 1, 1) := by decide +kernel
theorem dX0_copyFrom_34 : decode cX0_copyFrom 34 = .ok (.getfield 31, 3) := by decide +kernel
theorem dX0_copyFrom_37 : decode cX0_copyFrom 37 = .ok (.putfield 31, 3) := by decide +kernel
theorem dX0_copyFrom_40 : decode cX0_copyFrom 40 = .ok (.aload_n 0, 1) := by decide +kernel
theorem dX0_copyFrom_41 : decode cX0_copyFrom 41 = .ok (.aload_n 1, 1) := by decide +kernel
theorem dX0_copyFrom_42 : decode cX0_copyFrom 42 = .ok (.getfield 34, 3) := by decide +kernel
theorem dX0_copyFrom_45 : decode cX0_copyFrom 45 = .ok (.putfield 34, 3) := by decide +kernel
theorem dX0_copyFrom_48 : decode cX0_copyFrom 48 = .ok (.aload_n 1, 1) := by decide +kernel
theorem dX0_copyFrom_49 : decode cX0_copyFrom 49 = .ok (.getfield 15, 3) := by decide +kernel
theorem dX0_copyFrom_52 : decode cX0_copyFrom 52 = .ok (.iconst 0, 1) := by decide +kernel
theorem dX0_copyFrom_53 : decode cX0_copyFrom 53 = .ok (.aload_n 0, 1) := by decide +kernel
theorem dX0_copyFrom_54 : decode cX0_copyFrom 54 = .ok (.getfield 15, 3) := by decide +kernel
theorem dX0_copyFrom_57 : decode cX0_copyFrom 57 = .ok (.iconst 0, 1) := by decide +kernel
theorem dX0_copyFrom_58 : decode cX0_copyFrom 58 = .ok (.bipush 32, 2) := by decide +kernel
theorem dX0_copyFrom_60 : decode cX0_copyFrom 60 = .ok (.invokestatic 37, 3) := by decide +kernel
theorem dX0_copyFrom_63 : decode cX0_copyFrom 63 = .ok (.aload_n 1, 1) := by decide +kernel
theorem dX0_copyFrom_64 : decode cX0_copyFrom 64 = .ok (.getfield 19, 3) := by decide +kernel
theorem dX0_copyFrom_67 : decode cX0_copyFrom 67 = .ok (.iconst 0, 1) := by decide +kernel
theorem dX0_copyFrom_68 : decode cX0_copyFrom 68 = .ok (.aload_n 0, 1) := by decide +kernel
theorem dX0_copyFrom_69 : decode cX0_copyFrom 69 = .ok (.getfield 19, 3) := by decide +kernel
theorem dX0_copyFrom_72 : decode cX0_copyFrom 72 = .ok (.iconst 0, 1) := by decide +kernel
theorem dX0_copyFrom_73 : decode cX0_copyFrom 73 = .ok (.bipush 8, 2) := by decide +kernel
theorem dX0_copyFrom_75 : decode cX0_copyFrom 75 = .ok (.invokestatic 37, 3) := by decide +kernel
theorem dX0_copyFrom_78 : decode cX0_copyFrom 78 = .ok (.return_, 1) := by decide +kernel
theorem dX0_emptyPages_0 : decode cX0_emptyPages 0 = .ok (.iconst 0, 1) := by decide +kernel
theorem dX0_emptyPages_1 : decode cX0_emptyPages 1 = .ok (.istore_n 2, 1) := by decide +kernel
theorem dX0_emptyPages_2 : decode cX0_emptyPages 2 = .ok (.iload_n 2, 1) := by decide +kernel
theorem dX0_emptyPages_3 : decode cX0_emptyPages 3 = .ok (.iload_n 1, 1) := by decide +kernel
theorem dX0_emptyPages_4 : decode cX0_emptyPages 4 = .ok (.if_icmp .ge 25, 3) := by decide +kernel
theorem dX0_emptyPages_7 : decode cX0_emptyPages 7 = .ok (.iload_n 2, 1) := by decide +kernel
theorem dX0_emptyPages_8 : decode cX0_emptyPages 8 = .ok (.bipush 8, 2) := by decide +kernel
theorem dX0_emptyPages_10 : decode cX0_emptyPages 10 = .ok (.if_icmp .ge 19, 3) := by decide +kernel
theorem dX0_emptyPages_13 : decode cX0_emptyPages 13 = .ok (.aload_n 0, 1) := by decide +kernel
theorem dX0_emptyPages_14 : decode cX0_emptyPages 14 = .ok (.getfield 19, 3) := by decide +kernel
theorem dX0_emptyPages_17 : decode cX0_emptyPages 17 = .ok (.iload_n 2, 1) := by decide +kernel
theorem dX0_emptyPages_18 : decode cX0_emptyPages 18 = .ok (.dup2, 1) := by decide +kernel
theorem dX0_emptyPages_19 : decode cX0_emptyPages 19 = .ok (.iaload, 1) := by decide +kernel
theorem dX0_emptyPages_20 : decode cX0_emptyPages 20 = .ok (.iconst 1, 1) := by decide +kernel
theorem dX0_emptyPages_21 : decode cX0_emptyPages 21 = .ok (.iadd, 1) := by decide +kernel
theorem dX0_emptyPages_22 : decode cX0_emptyPages 22 = .ok (.iastore, 1) := by decide +kernel
theorem dX0_emptyPages_23 : decode cX0_emptyPages 23 = .ok (.iinc 2 1, 3) := by decide +kernel
theorem dX0_emptyPages_26 : decode cX0_emptyPages 26 = .ok (.goto (-24), 3) := by decide +kernel
theorem dX0_emptyPages_29 : decode cX0_emptyPages 29 = .ok (.iconst 0, 1) := by decide +kernel
theorem dX0_emptyPages_30 : decode cX0_emptyPages 30 = .ok (.istore_n 2, 1) := by decide +kernel
theorem dX0_emptyPages_31 : decode cX0_emptyPages 31 = .ok (.iload_n 2, 1) := by decide +kernel
theorem dX0_emptyPages_32 : decode cX0_emptyPages 32 = .ok (.iload_n 1, 1) := by decide +kernel
theorem dX0_emptyPages_33 : decode cX0_emptyPages 33 = .ok (.iconst 4, 1) := by decide +kernel
theorem dX0_emptyPages_34 : decode cX0_emptyPages 34 = .ok (.imul, 1) := by decide +kernel
theorem dX0_emptyPages_35 : decode cX0_emptyPages 35 = .ok (.if_icmp .ge 24, 3) := by decide +kernel
theorem dX0_emptyPages_38 : decode cX0_emptyPages 38 = .ok (.iload_n 2, 1) := by decide +kernel
theorem dX0_emptyPages_39 : decode cX0_emptyPages 39 = .ok (.bipush 32, 2) := by decide +kernel
theorem dX0_emptyPages_41 : decode cX0_emptyPages 41 = .ok (.if_icmp .ge 18, 3) := by decide +kernel
theorem dX0_emptyPages_44 : decode cX0_emptyPages 44 = .ok (.aload_n 0, 1) := by decide +kernel
theorem dX0_emptyPages_45 : decode cX0_emptyPages 45 = .ok (.getfield 15, 3) := by decide +kernel
theorem dX0_emptyPages_48 : decode cX0_emptyPages 48 = .ok (.iload_n 2, 1) := by decide +kernel
theorem dX0_emptyPages_49 : decode cX0_emptyPages 49 = .ok (.sipush 255, 3) := by decide +kernel
theorem dX0_emptyPages_52 : decode cX0_emptyPages 52 = .ok (.iastore, 1) := by decide +kernel
theorem dX0_emptyPages_53 : decode cX0_emptyPages 53 = .ok (.iinc 2 1, 3) := by decide +kernel
theorem dX0_emptyPages_56 : decode cX0_emptyPages 56 = .ok (.goto (-25), 3) := by decide +kernel
theorem dX0_emptyPages_59 : decode cX0_emptyPages 59 = .ok (.return_, 1) := by decide +kernel
theorem dX0_expectImage_0 : decode cX0_expectImage 0 = .ok (.aload_n 0, 1) := by decide +kernel
theorem dX0_expectImage_1 : decode cX0_expectImage 1 = .ok (.iconst 1, 1) := by decide +kernel
theorem dX0_expectImage_2 : decode cX0_expectImage 2 = .ok (.putfield 9, 3) := by decide +kernel
theorem dX0_expectImage_5 : decode cX0_expectImage 5 = .ok (.aload_n 0, 1) := by decide +kernel
theorem dX0_expectImage_6 : decode cX0_expectImage 6 = .ok (.iload_n 1, 1) := by decide +kernel
theorem dX0_expectImage_7 : decode cX0_expectImage 7 = .ok (.putfield 22, 3) := by decide +kernel
theorem dX0_expectImage_10 : decode cX0_expectImage 10 = .ok (.aload_n 0, 1) := by decide +kernel
theorem dX0_expectImage_11 : decode cX0_expectImage 11 = .ok (.iload_n 2, 1) := by decide +kernel
theorem dX0_expectImage_12 : decode cX0_expectImage 12 = .ok (.putfield 25, 3) := by decide +kernel
theorem dX0_expectImage_15 : decode cX0_expectImage 15 = .ok (.aload_n 0, 1) := by decide +kernel
theorem dX0_expectImage_16 : decode cX0_expectImage 16 = .ok (.iload_n 3, 1) := by decide +kernel
theorem dX0_expectImage_17 : decode cX0_expectImage 17 = .ok (.putfield 28, 3) := by decide +kernel
theorem dX0_expectImage_20 : decode cX0_expectImage 20 = .ok (.aload_n 0, 1) := by decide +kernel
theorem dX0_expectImage_21 : decode cX0_expectImage 21 = .ok (.iconst 0, 1) := by decide +kernel
theorem dX0_expectImage_22 : decode cX0_expectImage 22 = .ok (.putfield 31, 3) := by decide +kernel
theorem dX0_expectImage_25 : decode cX0_expectImage 25 = .ok (.aload_n 0, 1) := by decide +kernel
theorem dX0_expectImage_26 : decode cX0_expectImage 26 = .ok (.iconst 0, 1) := by decide +kernel
theorem dX0_expectImage_27 : decode cX0_expectImage 27 = .ok (.putfield 34, 3) := by decide +kernel
theorem dX0_expectImage_30 : decode cX0_expectImage 30 = .ok (.return_, 1) := by decide +kernel
theorem dX0_takeGoldenImage_0 : decode cX0_takeGoldenImage 0 = .ok (.aload_n 0, 1) := by decide +kernel
theorem dX0_takeGoldenImage_1 : decode cX0_takeGoldenImage 1 = .ok (.iconst 0, 1) := by decide +kernel
theorem dX0_takeGoldenImage_2 : decode cX0_takeGoldenImage 2 = .ok (.iconst 2, 1) := by decide +kernel
theorem dX0_takeGoldenImage_3 : decode cX0_takeGoldenImage 3 = .ok (.iconst 0, 1) := by decide +kernel
theorem dX0_takeGoldenImage_4 : decode cX0_takeGoldenImage 4 = .ok (.invokevirtual 43, 3) := by decide +kernel
theorem dX0_takeGoldenImage_7 : decode cX0_takeGoldenImage 7 = .ok (.aload_n 0, 1) := by decide +kernel
theorem dX0_takeGoldenImage_8 : decode cX0_takeGoldenImage 8 = .ok (.iconst 0, 1) := by decide +kernel
theorem dX0_takeGoldenImage_9 : decode cX0_takeGoldenImage 9 = .ok (.invokevirtual 47, 3) := by decide +kernel
theorem dX0_takeGoldenImage_12 : decode cX0_takeGoldenImage 12 = .ok (.aload_n 0, 1) := by decide +kernel
theorem dX0_takeGoldenImage_13 : decode cX0_takeGoldenImage 13 = .ok (.iconst 0, 1) := by decide +kernel
theorem dX0_takeGoldenImage_14 : decode cX0_takeGoldenImage 14 = .ok (.invokevirtual 47, 3) := by decide +kernel
theorem dX0_takeGoldenImage_17 : decode cX0_takeGoldenImage 17 = .ok (.aload_n 0, 1) := by decide +kernel
theorem dX0_takeGoldenImage_18 : decode cX0_takeGoldenImage 18 = .ok (.aload_n 0, 1) := by decide +kernel
theorem dX0_takeGoldenImage_19 : decode cX0_takeGoldenImage 19 = .ok (.invokevirtual 51, 3) := by decide +kernel
theorem dX0_takeGoldenImage_22 : decode cX0_takeGoldenImage 22 = .ok (.putfield 28, 3) := by decide +kernel
theorem dX0_takeGoldenImage_25 : decode cX0_takeGoldenImage 25 = .ok (.aload_n 0, 1) := by decide +kernel
theorem dX0_takeGoldenImage_26 : decode cX0_takeGoldenImage 26 = .ok (.iconst 3, 1) := by decide +kernel
theorem dX0_takeGoldenImage_27 : decode cX0_takeGoldenImage 27 = .ok (.putfield 9, 3) := by decide +kernel
theorem dX0_takeGoldenImage_30 : decode cX0_takeGoldenImage 30 = .ok (.return_, 1) := by decide +kernel
theorem dX0_lacking_0 : decode cX0_lacking 0 = .ok (.aload_n 0, 1) := by decide +kernel
theorem dX0_lacking_1 : decode cX0_lacking 1 = .ok (.getfield 25, 3) := by decide +kernel
theorem dX0_lacking_4 : decode cX0_lacking 4 = .ok (.aload_n 0, 1) := by decide +kernel
theorem dX0_lacking_5 : decode cX0_lacking 5 = .ok (.getfield 34, 3) := by decide +kernel
theorem dX0_lacking_8 : decode cX0_lacking 8 = .ok (.isub, 1) := by decide +kernel
theorem dX0_lacking_9 : decode cX0_lacking 9 = .ok (.ireturn, 1) := by decide +kernel
theorem dX0_addWord_0 : decode cX0_addWord 0 = .ok (.aload_n 0, 1) := by decide +kernel
theorem dX0_addWord_1 : decode cX0_addWord 1 = .ok (.getfield 34, 3) := by decide +kernel
theorem dX0_addWord_4 : decode cX0_addWord 4 = .ok (.iconst 0, 1) := by decide +kernel
theorem dX0_addWord_5 : decode cX0_addWord 5 = .ok (.bipush 31, 2) := by decide +kernel
theorem dX0_addWord_7 : decode cX0_addWord 7 = .ok (.invokestatic 55, 3) := by decide +kernel
theorem dX0_addWord_10 : decode cX0_addWord 10 = .ok (.ifCond .eq 23, 3) := by decide +kernel
theorem dX0_addWord_13 : decode cX0_addWord 13 = .ok (.aload_n 0, 1) := by decide +kernel
theorem dX0_addWord_14 : decode cX0_addWord 14 = .ok (.getfield 15, 3) := by decide +kernel
theorem dX0_addWord_17 : decode cX0_addWord 17 = .ok (.aload_n 0, 1) := by decide +kernel
theorem dX0_addWord_18 : decode cX0_addWord 18 = .ok (.getfield 34, 3) := by decide +kernel
theorem dX0_addWord_21 : decode cX0_addWord 21 = .ok (.iload_n 1, 1) := by decide +kernel
theorem dX0_addWord_22 : decode cX0_addWord 22 = .ok (.iastore, 1) := by decide +kernel
theorem dX0_addWord_23 : decode cX0_addWord 23 = .ok (.aload_n 0, 1) := by decide +kernel
theorem dX0_addWord_24 : decode cX0_addWord 24 = .ok (.dup, 1) := by decide +kernel
theorem dX0_addWord_25 : decode cX0_addWord 25 = .ok (.getfield 34, 3) := by decide +kernel
theorem dX0_addWord_28 : decode cX0_addWord 28 = .ok (.iconst 1, 1) := by decide +kernel
theorem dX0_addWord_29 : decode cX0_addWord 29 = .ok (.iadd, 1) := by decide +kernel
theorem dX0_addWord_30 : decode cX0_addWord 30 = .ok (.putfield 34, 3) := by decide +kernel
theorem dX0_addWord_33 : decode cX0_addWord 33 = .ok (.return_, 1) := by decide +kernel
theorem dX0_sumOfImage_0 : decode cX0_sumOfImage 0 = .ok (.iconst 1, 1) := by decide +kernel
theorem dX0_sumOfImage_1 : decode cX0_sumOfImage 1 = .ok (.istore_n 1, 1) := by decide +kernel
theorem dX0_sumOfImage_2 : decode cX0_sumOfImage 2 = .ok (.iconst 0, 1) := by decide +kernel
theorem dX0_sumOfImage_3 : decode cX0_sumOfImage 3 = .ok (.istore_n 2, 1) := by decide +kernel
theorem dX0_sumOfImage_4 : decode cX0_sumOfImage 4 = .ok (.iload_n 2, 1) := by decide +kernel
theorem dX0_sumOfImage_5 : decode cX0_sumOfImage 5 = .ok (.aload_n 0, 1) := by decide +kernel
theorem dX0_sumOfImage_6 : decode cX0_sumOfImage 6 = .ok (.getfield 25, 3) := by decide +kernel
theorem dX0_sumOfImage_9 : decode cX0_sumOfImage 9 = .ok (.if_icmp .ge 26, 3) := by decide +kernel
theorem dX0_sumOfImage_12 : decode cX0_sumOfImage 12 = .ok (.iload_n 2, 1) := by decide +kernel
theorem dX0_sumOfImage_13 : decode cX0_sumOfImage 13 = .ok (.bipush 32, 2) := by decide +kernel
theorem dX0_sumOfImage_15 : decode cX0_sumOfImage 15 = .ok (.if_icmp .ge 20, 3) := by decide +kernel
theorem dX0_sumOfImage_18 : decode cX0_sumOfImage 18 = .ok (.iload_n 1, 1) := by decide +kernel
theorem dX0_sumOfImage_19 : decode cX0_sumOfImage 19 = .ok (.aload_n 0, 1) := by decide +kernel
theorem dX0_sumOfImage_20 : decode cX0_sumOfImage 20 = .ok (.getfield 15, 3) := by decide +kernel
theorem dX0_sumOfImage_23 : decode cX0_sumOfImage 23 = .ok (.iload_n 2, 1) := by decide +kernel
theorem dX0_sumOfImage_24 : decode cX0_sumOfImage 24 = .ok (.iaload, 1) := by decide +kernel
theorem dX0_sumOfImage_25 : decode cX0_sumOfImage 25 = .ok (.invokestatic 59, 3) := by decide +kernel
theorem dX0_sumOfImage_28 : decode cX0_sumOfImage 28 = .ok (.istore_n 1, 1) := by decide +kernel
theorem dX0_sumOfImage_29 : decode cX0_sumOfImage 29 = .ok (.iinc 2 1, 3) := by decide +kernel
theorem dX0_sumOfImage_32 : decode cX0_sumOfImage 32 = .ok (.goto (-28), 3) := by decide +kernel
theorem dX0_sumOfImage_35 : decode cX0_sumOfImage 35 = .ok (.iload_n 1, 1) := by decide +kernel
theorem dX0_sumOfImage_36 : decode cX0_sumOfImage 36 = .ok (.ireturn, 1) := by decide +kernel
theorem dX0_isSound_0 : decode cX0_isSound 0 = .ok (.aload_n 0, 1) := by decide +kernel
theorem dX0_isSound_1 : decode cX0_isSound 1 = .ok (.invokevirtual 51, 3) := by decide +kernel
theorem dX0_isSound_4 : decode cX0_isSound 4 = .ok (.aload_n 0, 1) := by decide +kernel
theorem dX0_isSound_5 : decode cX0_isSound 5 = .ok (.getfield 28, 3) := by decide +kernel
theorem dX0_isSound_8 : decode cX0_isSound 8 = .ok (.if_icmp .ne 7, 3) := by decide +kernel
theorem dX0_isSound_11 : decode cX0_isSound 11 = .ok (.iconst 1, 1) := by decide +kernel
theorem dX0_isSound_12 : decode cX0_isSound 12 = .ok (.goto 4, 3) := by decide +kernel
theorem dX0_isSound_15 : decode cX0_isSound 15 = .ok (.iconst 0, 1) := by decide +kernel
theorem dX0_isSound_16 : decode cX0_isSound 16 = .ok (.ireturn, 1) := by decide +kernel
theorem dX0_greatestWear_0 : decode cX0_greatestWear 0 = .ok (.iconst 0, 1) := by decide +kernel
theorem dX0_greatestWear_1 : decode cX0_greatestWear 1 = .ok (.istore_n 2, 1) := by decide +kernel
theorem dX0_greatestWear_2 : decode cX0_greatestWear 2 = .ok (.iconst 0, 1) := by decide +kernel
theorem dX0_greatestWear_3 : decode cX0_greatestWear 3 = .ok (.istore_n 3, 1) := by decide +kernel
theorem dX0_greatestWear_4 : decode cX0_greatestWear 4 = .ok (.iload_n 3, 1) := by decide +kernel
theorem dX0_greatestWear_5 : decode cX0_greatestWear 5 = .ok (.iload_n 1, 1) := by decide +kernel
theorem dX0_greatestWear_6 : decode cX0_greatestWear 6 = .ok (.if_icmp .ge 26, 3) := by decide +kernel
theorem dX0_greatestWear_9 : decode cX0_greatestWear 9 = .ok (.iload_n 3, 1) := by decide +kernel
theorem dX0_greatestWear_10 : decode cX0_greatestWear 10 = .ok (.bipush 8, 2) := by decide +kernel
theorem dX0_greatestWear_12 : decode cX0_greatestWear 12 = .ok (.if_icmp .ge 20, 3) := by decide +kernel
theorem dX0_greatestWear_15 : decode cX0_greatestWear 15 = .ok (.iload_n 2, 1) := by decide +kernel
theorem dX0_greatestWear_16 : decode cX0_greatestWear 16 = .ok (.aload_n 0, 1) := by decide +kernel
theorem dX0_greatestWear_17 : decode cX0_greatestWear 17 = .ok (.getfield 19, 3) := by decide +kernel
theorem dX0_greatestWear_20 : decode cX0_greatestWear 20 = .ok (.iload_n 3, 1) := by decide +kernel
theorem dX0_greatestWear_21 : decode cX0_greatestWear 21 = .ok (.iaload, 1) := by decide +kernel
theorem dX0_greatestWear_22 : decode cX0_greatestWear 22 = .ok (.invokestatic 63, 3) := by decide +kernel
theorem dX0_greatestWear_25 : decode cX0_greatestWear 25 = .ok (.istore_n 2, 1) := by decide +kernel
theorem dX0_greatestWear_26 : decode cX0_greatestWear 26 = .ok (.iinc 3 1, 3) := by decide +kernel
theorem dX0_greatestWear_29 : decode cX0_greatestWear 29 = .ok (.goto (-25), 3) := by decide +kernel
theorem dX0_greatestWear_32 : decode cX0_greatestWear 32 = .ok (.iload_n 2, 1) := by decide +kernel
theorem dX0_greatestWear_33 : decode cX0_greatestWear 33 = .ok (.ireturn, 1) := by decide +kernel
theorem dX0_wornOutPages_0 : decode cX0_wornOutPages 0 = .ok (.iconst 0, 1) := by decide +kernel
theorem dX0_wornOutPages_1 : decode cX0_wornOutPages 1 = .ok (.istore_n 2, 1) := by decide +kernel
theorem dX0_wornOutPages_2 : decode cX0_wornOutPages 2 = .ok (.iconst 0, 1) := by decide +kernel
theorem dX0_wornOutPages_3 : decode cX0_wornOutPages 3 = .ok (.istore_n 3, 1) := by decide +kernel
theorem dX0_wornOutPages_4 : decode cX0_wornOutPages 4 = .ok (.iload_n 3, 1) := by decide +kernel
theorem dX0_wornOutPages_5 : decode cX0_wornOutPages 5 = .ok (.bipush 8, 2) := by decide +kernel
theorem dX0_wornOutPages_7 : decode cX0_wornOutPages 7 = .ok (.if_icmp .ge 22, 3) := by decide +kernel
theorem dX0_wornOutPages_10 : decode cX0_wornOutPages 10 = .ok (.aload_n 0, 1) := by decide +kernel
theorem dX0_wornOutPages_11 : decode cX0_wornOutPages 11 = .ok (.getfield 19, 3) := by decide +kernel
theorem dX0_wornOutPages_14 : decode cX0_wornOutPages 14 = .ok (.iload_n 3, 1) := by decide +kernel
theorem dX0_wornOutPages_15 : decode cX0_wornOutPages 15 = .ok (.iaload, 1) := by decide +kernel
theorem dX0_wornOutPages_16 : decode cX0_wornOutPages 16 = .ok (.iload_n 1, 1) := by decide +kernel
theorem dX0_wornOutPages_17 : decode cX0_wornOutPages 17 = .ok (.if_icmp .lt 6, 3) := by decide +kernel
theorem dX0_wornOutPages_20 : decode cX0_wornOutPages 20 = .ok (.iinc 2 1, 3) := by decide +kernel
theorem dX0_wornOutPages_23 : decode cX0_wornOutPages 23 = .ok (.iinc 3 1, 3) := by decide +kernel
theorem dX0_wornOutPages_26 : decode cX0_wornOutPages 26 = .ok (.goto (-22), 3) := by decide +kernel
theorem dX0_wornOutPages_29 : decode cX0_wornOutPages 29 = .ok (.iload_n 2, 1) := by decide +kernel
theorem dX0_wornOutPages_30 : decode cX0_wornOutPages 30 = .ok (.ireturn, 1) := by decide +kernel
theorem dX0_loseFilling_0 : decode cX0_loseFilling 0 = .ok (.aload_n 0, 1) := by decide +kernel
theorem dX0_loseFilling_1 : decode cX0_loseFilling 1 = .ok (.getfield 9, 3) := by decide +kernel
theorem dX0_loseFilling_4 : decode cX0_loseFilling 4 = .ok (.iconst 1, 1) := by decide +kernel
theorem dX0_loseFilling_5 : decode cX0_loseFilling 5 = .ok (.if_icmp .ne 8, 3) := by decide +kernel
theorem dX0_loseFilling_8 : decode cX0_loseFilling 8 = .ok (.aload_n 0, 1) := by decide +kernel
theorem dX0_loseFilling_9 : decode cX0_loseFilling 9 = .ok (.iconst 0, 1) := by decide +kernel
theorem dX0_loseFilling_10 : decode cX0_loseFilling 10 = .ok (.putfield 9, 3) := by decide +kernel
theorem dX0_loseFilling_13 : decode cX0_loseFilling 13 = .ok (.return_, 1) := by decide +kernel
theorem dX0_giveUpTrial_0 : decode cX0_giveUpTrial 0 = .ok (.aload_n 0, 1) := by decide +kernel
theorem dX0_giveUpTrial_1 : decode cX0_giveUpTrial 1 = .ok (.getfield 9, 3) := by decide +kernel
theorem dX0_giveUpTrial_4 : decode cX0_giveUpTrial 4 = .ok (.iconst 2, 1) := by decide +kernel
theorem dX0_giveUpTrial_5 : decode cX0_giveUpTrial 5 = .ok (.if_icmp .ne 15, 3) := by decide +kernel
theorem dX0_giveUpTrial_8 : decode cX0_giveUpTrial 8 = .ok (.aload_n 0, 1) := by decide +kernel
theorem dX0_giveUpTrial_9 : decode cX0_giveUpTrial 9 = .ok (.getfield 31, 3) := by decide +kernel
theorem dX0_giveUpTrial_12 : decode cX0_giveUpTrial 12 = .ok (.ifCond .ne 8, 3) := by decide +kernel
theorem dX0_giveUpTrial_15 : decode cX0_giveUpTrial 15 = .ok (.aload_n 0, 1) := by decide +kernel
theorem dX0_giveUpTrial_16 : decode cX0_giveUpTrial 16 = .ok (.iconst 4, 1) := by decide +kernel
theorem dX0_giveUpTrial_17 : decode cX0_giveUpTrial 17 = .ok (.putfield 9, 3) := by decide +kernel
theorem dX0_giveUpTrial_20 : decode cX0_giveUpTrial 20 = .ok (.return_, 1) := by decide +kernel
theorem dX0_useTry_0 : decode cX0_useTry 0 = .ok (.aload_n 0, 1) := by decide +kernel
theorem dX0_useTry_1 : decode cX0_useTry 1 = .ok (.getfield 9, 3) := by decide +kernel
theorem dX0_useTry_4 : decode cX0_useTry 4 = .ok (.iconst 2, 1) := by decide +kernel
theorem dX0_useTry_5 : decode cX0_useTry 5 = .ok (.if_icmp .ne 13, 3) := by decide +kernel
theorem dX0_useTry_8 : decode cX0_useTry 8 = .ok (.aload_n 0, 1) := by decide +kernel
theorem dX0_useTry_9 : decode cX0_useTry 9 = .ok (.dup, 1) := by decide +kernel
theorem dX0_useTry_10 : decode cX0_useTry 10 = .ok (.getfield 31, 3) := by decide +kernel
theorem dX0_useTry_13 : decode cX0_useTry 13 = .ok (.iconst 1, 1) := by decide +kernel
theorem dX0_useTry_14 : decode cX0_useTry 14 = .ok (.isub, 1) := by decide +kernel
theorem dX0_useTry_15 : decode cX0_useTry 15 = .ok (.putfield 31, 3) := by decide +kernel
theorem dX0_useTry_18 : decode cX0_useTry 18 = .ok (.return_, 1) := by decide +kernel
theorem dX1_init_0 : decode cX1_init 0 = .ok (.aload_n 0, 1) := by decide +kernel
theorem dX1_init_1 : decode cX1_init 1 = .ok (.invokespecial 3, 3) := by decide +kernel
theorem dX1_init_4 : decode cX1_init 4 = .ok (.aload_n 0, 1) := by decide +kernel
theorem dX1_init_5 : decode cX1_init 5 = .ok (.iconst 3, 1) := by decide +kernel
theorem dX1_init_6 : decode cX1_init 6 = .ok (.newarray .int, 2) := by decide +kernel
theorem dX1_init_8 : decode cX1_init 8 = .ok (.dup, 1) := by decide +kernel
theorem dX1_init_9 : decode cX1_init 9 = .ok (.iconst 0, 1) := by decide +kernel
theorem dX1_init_10 : decode cX1_init 10 = .ok (.iconst 3, 1) := by decide +kernel
theorem dX1_init_11 : decode cX1_init 11 = .ok (.iastore, 1) := by decide +kernel
theorem dX1_init_12 : decode cX1_init 12 = .ok (.dup, 1) := by decide +kernel
theorem dX1_init_13 : decode cX1_init 13 = .ok (.iconst 1, 1) := by decide +kernel
theorem dX1_init_14 : decode cX1_init 14 = .ok (.bipush 10, 2) := by decide +kernel
theorem dX1_init_16 : decode cX1_init 16 = .ok (.iastore, 1) := by decide +kernel
theorem dX1_init_17 : decode cX1_init 17 = .ok (.dup, 1) := by decide +kernel
theorem dX1_init_18 : decode cX1_init 18 = .ok (.iconst 2, 1) := by decide +kernel
theorem dX1_init_19 : decode cX1_init 19 = .ok (.bipush 20, 2) := by decide +kernel
theorem dX1_init_21 : decode cX1_init 21 = .ok (.iastore, 1) := by decide +kernel
theorem dX1_init_22 : decode cX1_init 22 = .ok (.putfield 9, 3) := by decide +kernel
theorem dX1_init_25 : decode cX1_init 25 = .ok (.aload_n 0, 1) := by decide +kernel
theorem dX1_init_26 : decode cX1_init 26 = .ok (.new 15, 3) := by decide +kernel
theorem dX1_init_29 : decode cX1_init 29 = .ok (.dup, 1) := by decide +kernel
theorem dX1_init_30 : decode cX1_init 30 = .ok (.invokespecial 17, 3) := by decide +kernel
theorem dX1_init_33 : decode cX1_init 33 = .ok (.putfield 18, 3) := by decide +kernel
theorem dX1_init_36 : decode cX1_init 36 = .ok (.aload_n 0, 1) := by decide +kernel
theorem dX1_init_37 : decode cX1_init 37 = .ok (.new 15, 3) := by decide +kernel
theorem dX1_init_40 : decode cX1_init 40 = .ok (.dup, 1) := by decide +kernel
theorem dX1_init_41 : decode cX1_init 41 = .ok (.invokespecial 17, 3) := by decide +kernel
theorem dX1_init_44 : decode cX1_init 44 = .ok (.putfield 22, 3) := by decide +kernel
theorem dX1_init_47 : decode cX1_init 47 = .ok (.aload_n 0, 1) := by decide +kernel
theorem dX1_init_48 : decode cX1_init 48 = .ok (.new 15, 3) := by decide +kernel
theorem dX1_init_51 : decode cX1_init 51 = .ok (.dup, 1) := by decide +kernel
theorem dX1_init_52 : decode cX1_init 52 = .ok (.invokespecial 17, 3) := by decide +kernel
theorem dX1_init_55 : decode cX1_init 55 = .ok (.putfield 25, 3) := by decide +kernel
theorem dX1_init_58 : decode cX1_init 58 = .ok (.aload_n 0, 1) := by decide +kernel
theorem dX1_init_59 : decode cX1_init 59 = .ok (.new 28, 3) := by decide +kernel
theorem dX1_init_62 : decode cX1_init 62 = .ok (.dup, 1) := by decide +kernel
theorem dX1_init_63 : decode cX1_init 63 = .ok (.invokespecial 30, 3) := by decide +kernel
theorem dX1_init_66 : decode cX1_init 66 = .ok (.putfield 31, 3) := by decide +kernel
theorem dX1_init_69 : decode cX1_init 69 = .ok (.aload_n 0, 1) := by decide +kernel
theorem dX1_init_70 : decode cX1_init 70 = .ok (.iconst 2, 1) := by decide +kernel
theorem dX1_init_71 : decode cX1_init 71 = .ok (.putfield 35, 3) := by decide +kernel
theorem dX1_init_74 : decode cX1_init 74 = .ok (.aload_n 0, 1) := by decide +kernel
theorem dX1_init_75 : decode cX1_init 75 = .ok (.getfield 25, 3) := by decide +kernel
theorem dX1_init_78 : decode cX1_init 78 = .ok (.invokevirtual 39, 3) := by decide +kernel
theorem dX1_init_81 : decode cX1_init 81 = .ok (.return_, 1) := by decide +kernel
theorem dX1_copyFrom_0 : decode cX1_copyFrom 0 = .ok (.aload_n 1, 1) := by decide +kernel
theorem dX1_copyFrom_1 : decode cX1_copyFrom 1 = .ok (.getfield 9, 3) := by decide +kernel
theorem dX1_copyFrom_4 : decode cX1_copyFrom 4 = .ok (.iconst 0, 1) := by decide +kernel
theorem dX1_copyFrom_5 : decode cX1_copyFrom 5 = .ok (.aload_n 0, 1) := by decide +kernel
theorem dX1_copyFrom_6 : decode cX1_copyFrom 6 = .ok (.getfield 9, 3) := by decide +kernel
theorem dX1_copyFrom_9 : decode cX1_copyFrom 9 = .ok (.iconst 0, 1) := by decide +kernel
theorem dX1_copyFrom_10 : decode cX1_copyFrom 10 = .ok (.iconst 3, 1) := by decide +kernel
theorem dX1_copyFrom_11 : decode cX1_copyFrom 11 = .ok (.invokestatic 42, 3) := by decide +kernel
theorem dX1_copyFrom_14 : decode cX1_copyFrom 14 = .ok (.aload_n 0, 1) := by decide +kernel
theorem dX1_copyFrom_15 : decode cX1_copyFrom 15 = .ok (.getfield 18, 3) := by decide +kernel
theorem dX1_copyFrom_18 : decode cX1_copyFrom 18 = .ok (.aload_n 1, 1) := by decide +kernel
theorem dX1_copyFrom_19 : decode cX1_copyFrom 19 = .ok (.getfield 18, 3) := by decide +kernel
theorem dX1_copyFrom_22 : decode cX1_copyFrom 22 = .ok (.invokevirtual 48, 3) := by decide +kernel
theorem dX1_copyFrom_25 : decode cX1_copyFrom 25 = .ok (.aload_n 0, 1) := by decide +kernel
theorem dX1_copyFrom_26 : decode cX1_copyFrom 26 = .ok (.getfield 22, 3) := by decide +kernel
theorem dX1_copyFrom_29 : decode cX1_copyFrom 29 = .ok (.aload_n 1, 1) := by decide +kernel
theorem dX1_copyFrom_30 : decode cX1_copyFrom 30 = .ok (.getfield 22, 3) := by decide +kernel
theorem dX1_copyFrom_33 : decode cX1_copyFrom 33 = .ok (.invokevirtual 48, 3) := by decide +kernel
theorem dX1_copyFrom_36 : decode cX1_copyFrom 36 = .ok (.aload_n 0, 1) := by decide +kernel
theorem dX1_copyFrom_37 : decode cX1_copyFrom 37 = .ok (.getfield 31, 3) := by decide +kernel
theorem dX1_copyFrom_40 : decode cX1_copyFrom 40 = .ok (.aload_n 1, 1) := by decide +kernel
theorem dX1_copyFrom_41 : decode cX1_copyFrom 41 = .ok (.getfield 31, 3) := by decide +kernel
theorem dX1_copyFrom_44 : decode cX1_copyFrom 44 = .ok (.invokevirtual 52, 3) := by decide +kernel
theorem dX1_copyFrom_47 : decode cX1_copyFrom 47 = .ok (.aload_n 0, 1) := by decide +kernel
theorem dX1_copyFrom_48 : decode cX1_copyFrom 48 = .ok (.aload_n 1, 1) := by decide +kernel
theorem dX1_copyFrom_49 : decode cX1_copyFrom 49 = .ok (.getfield 35, 3) := by decide +kernel
theorem dX1_copyFrom_52 : decode cX1_copyFrom 52 = .ok (.putfield 35, 3) := by decide +kernel
theorem dX1_copyFrom_55 : decode cX1_copyFrom 55 = .ok (.aload_n 0, 1) := by decide +kernel
theorem dX1_copyFrom_56 : decode cX1_copyFrom 56 = .ok (.aload_n 1, 1) := by decide +kernel
theorem dX1_copyFrom_57 : decode cX1_copyFrom 57 = .ok (.getfield 55, 3) := by decide +kernel
theorem dX1_copyFrom_60 : decode cX1_copyFrom 60 = .ok (.putfield 55, 3) := by decide +kernel
theorem dX1_copyFrom_63 : decode cX1_copyFrom 63 = .ok (.aload_n 0, 1) := by decide +kernel
theorem dX1_copyFrom_64 : decode cX1_copyFrom 64 = .ok (.aload_n 1, 1) := by decide +kernel
theorem dX1_copyFrom_65 : decode cX1_copyFrom 65 = .ok (.getfield 58, 3) := by decide +kernel
theorem dX1_copyFrom_68 : decode cX1_copyFrom 68 = .ok (.putfield 58, 3) := by decide +kernel
theorem dX1_copyFrom_71 : decode cX1_copyFrom 71 = .ok (.aload_n 0, 1) := by decide +kernel
theorem dX1_copyFrom_72 : decode cX1_copyFrom 72 = .ok (.aload_n 1, 1) := by decide +kernel
theorem dX1_copyFrom_73 : decode cX1_copyFrom 73 = .ok (.getfield 61, 3) := by decide +kernel
theorem dX1_copyFrom_76 : decode cX1_copyFrom 76 = .ok (.putfield 61, 3) := by decide +kernel
theorem dX1_copyFrom_79 : decode cX1_copyFrom 79 = .ok (.aload_n 0, 1) := by decide +kernel
theorem dX1_copyFrom_80 : decode cX1_copyFrom 80 = .ok (.aload_n 1, 1) := by decide +kernel
theorem dX1_copyFrom_81 : decode cX1_copyFrom 81 = .ok (.getfield 64, 3) := by decide +kernel
theorem dX1_copyFrom_84 : decode cX1_copyFrom 84 = .ok (.putfield 64, 3) := by decide +kernel
theorem dX1_copyFrom_87 : decode cX1_copyFrom 87 = .ok (.return_, 1) := by decide +kernel
theorem dX1_areaAt_0 : decode cX1_areaAt 0 = .ok (.iload_n 1, 1) := by decide +kernel
theorem dX1_areaAt_1 : decode cX1_areaAt 1 = .ok (.ifCond .ne 8, 3) := by decide +kernel
theorem dX1_areaAt_4 : decode cX1_areaAt 4 = .ok (.aload_n 0, 1) := by decide +kernel
theorem dX1_areaAt_5 : decode cX1_areaAt 5 = .ok (.getfield 18, 3) := by decide +kernel
theorem dX1_areaAt_8 : decode cX1_areaAt 8 = .ok (.areturn, 1) := by decide +kernel
theorem dX1_areaAt_9 : decode cX1_areaAt 9 = .ok (.iload_n 1, 1) := by decide +kernel
theorem dX1_areaAt_10 : decode cX1_areaAt 10 = .ok (.iconst 1, 1) := by decide +kernel
theorem dX1_areaAt_11 : decode cX1_areaAt 11 = .ok (.if_icmp .ne 10, 3) := by decide +kernel
theorem dX1_areaAt_14 : decode cX1_areaAt 14 = .ok (.aload_n 0, 1) := by decide +kernel
theorem dX1_areaAt_15 : decode cX1_areaAt 15 = .ok (.getfield 22, 3) := by decide +kernel
theorem dX1_areaAt_18 : decode cX1_areaAt 18 = .ok (.goto 7, 3) := by decide +kernel
theorem dX1_areaAt_21 : decode cX1_areaAt 21 = .ok (.aload_n 0, 1) := by decide +kernel
theorem dX1_areaAt_22 : decode cX1_areaAt 22 = .ok (.getfield 25, 3) := by decide +kernel
theorem dX1_areaAt_25 : decode cX1_areaAt 25 = .ok (.areturn, 1) := by decide +kernel
theorem dX1_badSlots_0 : decode cX1_badSlots 0 = .ok (.aload_n 0, 1) := by decide +kernel
theorem dX1_badSlots_1 : decode cX1_badSlots 1 = .ok (.getfield 18, 3) := by decide +kernel
theorem dX1_badSlots_4 : decode cX1_badSlots 4 = .ok (.getfield 67, 3) := by decide +kernel
theorem dX1_badSlots_7 : decode cX1_badSlots 7 = .ok (.iconst 4, 1) := by decide +kernel
theorem dX1_badSlots_8 : decode cX1_badSlots 8 = .ok (.if_icmp .ne 7, 3) := by decide +kernel
theorem dX1_badSlots_11 : decode cX1_badSlots 11 = .ok (.iconst 1, 1) := by decide +kernel
theorem dX1_badSlots_12 : decode cX1_badSlots 12 = .ok (.goto 4, 3) := by decide +kernel
theorem dX1_badSlots_15 : decode cX1_badSlots 15 = .ok (.iconst 0, 1) := by decide +kernel
theorem dX1_badSlots_16 : decode cX1_badSlots 16 = .ok (.aload_n 0, 1) := by decide +kernel
theorem dX1_badSlots_17 : decode cX1_badSlots 17 = .ok (.getfield 22, 3) := by decide +kernel
theorem dX1_badSlots_20 : decode cX1_badSlots 20 = .ok (.getfield 67, 3) := by decide +kernel
theorem dX1_badSlots_23 : decode cX1_badSlots 23 = .ok (.iconst 4, 1) := by decide +kernel
theorem dX1_badSlots_24 : decode cX1_badSlots 24 = .ok (.if_icmp .ne 7, 3) := by decide +kernel
theorem dX1_badSlots_27 : decode cX1_badSlots 27 = .ok (.iconst 1, 1) := by decide +kernel
theorem dX1_badSlots_28 : decode cX1_badSlots 28 = .ok (.goto 4, 3) := by decide +kernel
theorem dX1_badSlots_31 : decode cX1_badSlots 31 = .ok (.iconst 0, 1) := by decide +kernel
theorem dX1_badSlots_32 : decode cX1_badSlots 32 = .ok (.iadd, 1) := by decide +kernel
theorem dX1_badSlots_33 : decode cX1_badSlots 33 = .ok (.ireturn, 1) := by decide +kernel
theorem dX1_beginsLeft_0 : decode cX1_beginsLeft 0 = .ok (.iconst 0, 1) := by decide +kernel
theorem dX1_beginsLeft_1 : decode cX1_beginsLeft 1 = .ok (.aload_n 0, 1) := by decide +kernel
theorem dX1_beginsLeft_2 : decode cX1_beginsLeft 2 = .ok (.getfield 9, 3) := by decide +kernel
theorem dX1_beginsLeft_5 : decode cX1_beginsLeft 5 = .ok (.iconst 2, 1) := by decide +kernel
theorem dX1_beginsLeft_6 : decode cX1_beginsLeft 6 = .ok (.iaload, 1) := by decide +kernel
theorem dX1_beginsLeft_7 : decode cX1_beginsLeft 7 = .ok (.aload_n 0, 1) := by decide +kernel
theorem dX1_beginsLeft_8 : decode cX1_beginsLeft 8 = .ok (.iload_n 1, 1) := by decide +kernel
theorem dX1_beginsLeft_9 : decode cX1_beginsLeft 9 = .ok (.invokevirtual 70, 3) := by decide +kernel
theorem dX1_beginsLeft_12 : decode cX1_beginsLeft 12 = .ok (.iload_n 2, 1) := by decide +kernel
theorem dX1_beginsLeft_13 : decode cX1_beginsLeft 13 = .ok (.invokevirtual 74, 3) := by decide +kernel
theorem dX1_beginsLeft_16 : decode cX1_beginsLeft 16 = .ok (.isub, 1) := by decide +kernel
theorem dX1_beginsLeft_17 : decode cX1_beginsLeft 17 = .ok (.invokestatic 78, 3) := by decide +kernel
theorem dX1_beginsLeft_20 : decode cX1_beginsLeft 20 = .ok (.ireturn, 1) := by decide +kernel
theorem dX1_startBy_0 : decode cX1_startBy 0 = .ok (.iload_n 1, 1) := by decide +kernel
theorem dX1_startBy_1 : decode cX1_startBy 1 = .ok (.iconst 2, 1) := by decide +kernel
theorem dX1_startBy_2 : decode cX1_startBy 2 = .ok (.if_icmp .ne 17, 3) := by decide +kernel
theorem dX1_startBy_5 : decode cX1_startBy 5 = .ok (.aload_n 0, 1) := by decide +kernel
theorem dX1_startBy_6 : decode cX1_startBy 6 = .ok (.getfield 18, 3) := by decide +kernel
theorem dX1_startBy_9 : decode cX1_startBy 9 = .ok (.invokevirtual 84, 3) := by decide +kernel
theorem dX1_startBy_12 : decode cX1_startBy 12 = .ok (.aload_n 0, 1) := by decide +kernel
theorem dX1_startBy_13 : decode cX1_startBy 13 = .ok (.getfield 22, 3) := by decide +kernel
theorem dX1_startBy_16 : decode cX1_startBy 16 = .ok (.invokevirtual 84, 3) := by decide +kernel
theorem dX1_startBy_19 : decode cX1_startBy 19 = .ok (.aload_n 0, 1) := by decide +kernel
theorem dX1_startBy_20 : decode cX1_startBy 20 = .ok (.getfield 18, 3) := by decide +kernel
theorem dX1_startBy_23 : decode cX1_startBy 23 = .ok (.invokevirtual 87, 3) := by decide +kernel
theorem dX1_startBy_26 : decode cX1_startBy 26 = .ok (.aload_n 0, 1) := by decide +kernel
theorem dX1_startBy_27 : decode cX1_startBy 27 = .ok (.getfield 22, 3) := by decide +kernel
theorem dX1_startBy_30 : decode cX1_startBy 30 = .ok (.invokevirtual 87, 3) := by decide +kernel
theorem dX1_startBy_33 : decode cX1_startBy 33 = .ok (.aload_n 0, 1) := by decide +kernel
theorem dX1_startBy_34 : decode cX1_startBy 34 = .ok (.aload_n 0, 1) := by decide +kernel
theorem dX1_startBy_35 : decode cX1_startBy 35 = .ok (.invokevirtual 90, 3) := by decide +kernel
theorem dX1_startBy_38 : decode cX1_startBy 38 = .ok (.putfield 35, 3) := by decide +kernel
theorem dX1_startBy_41 : decode cX1_startBy 41 = .ok (.aload_n 0, 1) := by decide +kernel
theorem dX1_startBy_42 : decode cX1_startBy 42 = .ok (.aload_n 0, 1) := by decide +kernel
theorem dX1_startBy_43 : decode cX1_startBy 43 = .ok (.getfield 35, 3) := by decide +kernel
theorem dX1_startBy_46 : decode cX1_startBy 46 = .ok (.invokevirtual 70, 3) := by decide +kernel
theorem dX1_startBy_49 : decode cX1_startBy 49 = .ok (.invokevirtual 94, 3) := by decide +kernel
theorem dX1_startBy_52 : decode cX1_startBy 52 = .ok (.aload_n 0, 1) := by decide +kernel
theorem dX1_startBy_53 : decode cX1_startBy 53 = .ok (.iconst 0, 1) := by decide +kernel
theorem dX1_startBy_54 : decode cX1_startBy 54 = .ok (.putfield 55, 3) := by decide +kernel
theorem dX1_startBy_57 : decode cX1_startBy 57 = .ok (.aload_n 0, 1) := by decide +kernel
theorem dX1_startBy_58 : decode cX1_startBy 58 = .ok (.iconst 0, 1) := by decide +kernel
theorem dX1_startBy_59 : decode cX1_startBy 59 = .ok (.putfield 58, 3) := by decide +kernel
theorem dX1_startBy_62 : decode cX1_startBy 62 = .ok (.aload_n 0, 1) := by decide +kernel
theorem dX1_startBy_63 : decode cX1_startBy 63 = .ok (.getfield 31, 3) := by decide +kernel
theorem dX1_startBy_66 : decode cX1_startBy 66 = .ok (.aload_n 0, 1) := by decide +kernel
theorem dX1_startBy_67 : decode cX1_startBy 67 = .ok (.getfield 35, 3) := by decide +kernel
theorem dX1_startBy_70 : decode cX1_startBy 70 = .ok (.iload_n 1, 1) := by decide +kernel
theorem dX1_startBy_71 : decode cX1_startBy 71 = .ok (.aload_n 0, 1) := by decide +kernel
theorem dX1_startBy_72 : decode cX1_startBy 72 = .ok (.getfield 64, 3) := by decide +kernel
theorem dX1_startBy_75 : decode cX1_startBy 75 = .ok (.invokevirtual 97, 3) := by decide +kernel
theorem dX1_startBy_78 : decode cX1_startBy 78 = .ok (.return_, 1) := by decide +kernel
theorem dX1_soundArea_0 : decode cX1_soundArea 0 = .ok (.iconst 0, 1) := by decide +kernel
theorem dX1_soundArea_1 : decode cX1_soundArea 1 = .ok (.istore_n 1, 1) := by decide +kernel
theorem dX1_soundArea_2 : decode cX1_soundArea 2 = .ok (.iload_n 1, 1) := by decide +kernel
theorem dX1_soundArea_3 : decode cX1_soundArea 3 = .ok (.iconst 2, 1) := by decide +kernel
theorem dX1_soundArea_4 : decode cX1_soundArea 4 = .ok (.if_icmp .ge 36, 3) := by decide +kernel
theorem dX1_soundArea_7 : decode cX1_soundArea 7 = .ok (.aload_n 0, 1) := by decide +kernel
theorem dX1_soundArea_8 : decode cX1_soundArea 8 = .ok (.invokevirtual 101, 3) := by decide +kernel
theorem dX1_soundArea_11 : decode cX1_soundArea 11 = .ok (.istore_n 2, 1) := by decide +kernel
theorem dX1_soundArea_12 : decode cX1_soundArea 12 = .ok (.aload_n 0, 1) := by decide +kernel
theorem dX1_soundArea_13 : decode cX1_soundArea 13 = .ok (.iload_n 2, 1) := by decide +kernel
theorem dX1_soundArea_14 : decode cX1_soundArea 14 = .ok (.invokevirtual 70, 3) := by decide +kernel
theorem dX1_soundArea_17 : decode cX1_soundArea 17 = .ok (.invokevirtual 104, 3) := by decide +kernel
theorem dX1_soundArea_20 : decode cX1_soundArea 20 = .ok (.ifCond .eq 5, 3) := by decide +kernel
theorem dX1_soundArea_23 : decode cX1_soundArea 23 = .ok (.iload_n 2, 1) := by decide +kernel
theorem dX1_soundArea_24 : decode cX1_soundArea 24 = .ok (.ireturn, 1) := by decide +kernel
theorem dX1_soundArea_25 : decode cX1_soundArea 25 = .ok (.aload_n 0, 1) := by decide +kernel
theorem dX1_soundArea_26 : decode cX1_soundArea 26 = .ok (.iload_n 2, 1) := by decide +kernel
theorem dX1_soundArea_27 : decode cX1_soundArea 27 = .ok (.invokevirtual 70, 3) := by decide +kernel
theorem dX1_soundArea_30 : decode cX1_soundArea 30 = .ok (.iconst 4, 1) := by decide +kernel
theorem dX1_soundArea_31 : decode cX1_soundArea 31 = .ok (.putfield 67, 3) := by decide +kernel
theorem dX1_soundArea_34 : decode cX1_soundArea 34 = .ok (.iinc 1 1, 3) := by decide +kernel
theorem dX1_soundArea_37 : decode cX1_soundArea 37 = .ok (.goto (-35), 3) := by decide +kernel
theorem dX1_soundArea_40 : decode cX1_soundArea 40 = .ok (.iconst 2, 1) := by decide +kernel
theorem dX1_soundArea_41 : decode cX1_soundArea 41 = .ok (.ireturn, 1) := by decide +kernel
theorem dX1_bestArea_0 : decode cX1_bestArea 0 = .ok (.aload_n 0, 1) := by decide +kernel
theorem dX1_bestArea_1 : decode cX1_bestArea 1 = .ok (.iconst 2, 1) := by decide +kernel
theorem dX1_bestArea_2 : decode cX1_bestArea 2 = .ok (.invokevirtual 108, 3) := by decide +kernel
theorem dX1_bestArea_5 : decode cX1_bestArea 5 = .ok (.istore_n 1, 1) := by decide +kernel
theorem dX1_bestArea_6 : decode cX1_bestArea 6 = .ok (.iload_n 1, 1) := by decide +kernel
theorem dX1_bestArea_7 : decode cX1_bestArea 7 = .ok (.iconst 2, 1) := by decide +kernel
theorem dX1_bestArea_8 : decode cX1_bestArea 8 = .ok (.if_icmp .eq 7, 3) := by decide +kernel
theorem dX1_bestArea_11 : decode cX1_bestArea 11 = .ok (.iload_n 1, 1) := by decide +kernel
theorem dX1_bestArea_12 : decode cX1_bestArea 12 = .ok (.goto 8, 3) := by decide +kernel
theorem dX1_bestArea_15 : decode cX1_bestArea 15 = .ok (.aload_n 0, 1) := by decide +kernel
theorem dX1_bestArea_16 : decode cX1_bestArea 16 = .ok (.iconst 3, 1) := by decide +kernel
theorem dX1_bestArea_17 : decode cX1_bestArea 17 = .ok (.invokevirtual 108, 3) := by decide +kernel
theorem dX1_bestArea_20 : decode cX1_bestArea 20 = .ok (.ireturn, 1) := by decide +kernel
theorem dX1_newestThatIs_0 : decode cX1_newestThatIs 0 = .ok (.aload_n 0, 1) := by decide +kernel
theorem dX1_newestThatIs_1 : decode cX1_newestThatIs 1 = .ok (.getfield 22, 3) := by decide +kernel
theorem dX1_newestThatIs_4 : decode cX1_newestThatIs 4 = .ok (.getfield 67, 3) := by decide +kernel
theorem dX1_newestThatIs_7 : decode cX1_newestThatIs 7 = .ok (.iload_n 1, 1) := by decide +kernel
theorem dX1_newestThatIs_8 : decode cX1_newestThatIs 8 = .ok (.if_icmp .ne 33, 3) := by decide +kernel
theorem dX1_newestThatIs_11 : decode cX1_newestThatIs 11 = .ok (.aload_n 0, 1) := by decide +kernel
theorem dX1_newestThatIs_12 : decode cX1_newestThatIs 12 = .ok (.getfield 18, 3) := by decide +kernel
theorem dX1_newestThatIs_15 : decode cX1_newestThatIs 15 = .ok (.getfield 67, 3) := by decide +kernel
theorem dX1_newestThatIs_18 : decode cX1_newestThatIs 18 = .ok (.iload_n 1, 1) := by decide +kernel
theorem dX1_newestThatIs_19 : decode cX1_newestThatIs 19 = .ok (.if_icmp .ne 20, 3) := by decide +kernel
theorem dX1_newestThatIs_22 : decode cX1_newestThatIs 22 = .ok (.aload_n 0, 1) := by decide +kernel
theorem dX1_newestThatIs_23 : decode cX1_newestThatIs 23 = .ok (.getfield 22, 3) := by decide +kernel
theorem dX1_newestThatIs_26 : decode cX1_newestThatIs 26 = .ok (.getfield 111, 3) := by decide +kernel
theorem dX1_newestThatIs_29 : decode cX1_newestThatIs 29 = .ok (.aload_n 0, 1) := by decide +kernel
theorem dX1_newestThatIs_30 : decode cX1_newestThatIs 30 = .ok (.getfield 18, 3) := by decide +kernel
theorem dX1_newestThatIs_33 : decode cX1_newestThatIs 33 = .ok (.getfield 111, 3) := by decide +kernel
theorem dX1_newestThatIs_36 : decode cX1_newestThatIs 36 = .ok (.if_icmp .le 5, 3) := by decide +kernel
theorem dX1_newestThatIs_39 : decode cX1_newestThatIs 39 = .ok (.iconst 1, 1) := by decide +kernel
theorem dX1_newestThatIs_40 : decode cX1_newestThatIs 40 = .ok (.ireturn, 1) := by decide +kernel
theorem dX1_newestThatIs_41 : decode cX1_newestThatIs 41 = .ok (.aload_n 0, 1) := by decide +kernel
theorem dX1_newestThatIs_42 : decode cX1_newestThatIs 42 = .ok (.getfield 18, 3) := by decide +kernel
theorem dX1_newestThatIs_45 : decode cX1_newestThatIs 45 = .ok (.getfield 67, 3) := by decide +kernel
theorem dX1_newestThatIs_48 : decode cX1_newestThatIs 48 = .ok (.iload_n 1, 1) := by decide +kernel
theorem dX1_newestThatIs_49 : decode cX1_newestThatIs 49 = .ok (.if_icmp .ne 7, 3) := by decide +kernel
theorem dX1_newestThatIs_52 : decode cX1_newestThatIs 52 = .ok (.iconst 0, 1) := by decide +kernel
theorem dX1_newestThatIs_53 : decode cX1_newestThatIs 53 = .ok (.goto 4, 3) := by decide +kernel
theorem dX1_newestThatIs_56 : decode cX1_newestThatIs 56 = .ok (.iconst 2, 1) := by decide +kernel
theorem dX1_newestThatIs_57 : decode cX1_newestThatIs 57 = .ok (.ireturn, 1) := by decide +kernel
theorem dX1_letPass_0 : decode cX1_letPass 0 = .ok (.iconst 0, 1) := by decide +kernel
theorem dX1_letPass_1 : decode cX1_letPass 1 = .ok (.istore_n 2, 1) := by decide +kernel
theorem dX1_letPass_2 : decode cX1_letPass 2 = .ok (.iconst 0, 1) := by decide +kernel
theorem dX1_letPass_3 : decode cX1_letPass 3 = .ok (.istore_n 3, 1) := by decide +kernel
theorem dX1_letPass_4 : decode cX1_letPass 4 = .ok (.iload_n 3, 1) := by decide +kernel
theorem dX1_letPass_5 : decode cX1_letPass 5 = .ok (.iload_n 1, 1) := by decide +kernel
theorem dX1_letPass_6 : decode cX1_letPass 6 = .ok (.if_icmp .ge 24, 3) := by decide +kernel
theorem dX1_letPass_9 : decode cX1_letPass 9 = .ok (.aload_n 0, 1) := by decide +kernel
theorem dX1_letPass_10 : decode cX1_letPass 10 = .ok (.invokevirtual 114, 3) := by decide +kernel
theorem dX1_letPass_13 : decode cX1_letPass 13 = .ok (.ifCond .eq 11, 3) := by decide +kernel
theorem dX1_letPass_16 : decode cX1_letPass 16 = .ok (.aload_n 0, 1) := by decide +kernel
theorem dX1_letPass_17 : decode cX1_letPass 17 = .ok (.iconst 1, 1) := by decide +kernel
theorem dX1_letPass_18 : decode cX1_letPass 18 = .ok (.invokevirtual 117, 3) := by decide +kernel
theorem dX1_letPass_21 : decode cX1_letPass 21 = .ok (.iinc 2 1, 3) := by decide +kernel
theorem dX1_letPass_24 : decode cX1_letPass 24 = .ok (.iinc 3 1, 3) := by decide +kernel
theorem dX1_letPass_27 : decode cX1_letPass 27 = .ok (.goto (-23), 3) := by decide +kernel
theorem dX1_letPass_30 : decode cX1_letPass 30 = .ok (.iload_n 2, 1) := by decide +kernel
theorem dX1_letPass_31 : decode cX1_letPass 31 = .ok (.ireturn, 1) := by decide +kernel
theorem dX1_needsStartInTick_0 : decode cX1_needsStartInTick 0 = .ok (.aload_n 0, 1) := by decide +kernel
theorem dX1_needsStartInTick_1 : decode cX1_needsStartInTick 1 = .ok (.aload_n 0, 1) := by decide +kernel
theorem dX1_needsStartInTick_2 : decode cX1_needsStartInTick 2 = .ok (.getfield 35, 3) := by decide +kernel
theorem dX1_needsStartInTick_5 : decode cX1_needsStartInTick 5 = .ok (.invokevirtual 70, 3) := by decide +kernel
theorem dX1_needsStartInTick_8 : decode cX1_needsStartInTick 8 = .ok (.astore_n 1, 1) := by decide +kernel
theorem dX1_needsStartInTick_9 : decode cX1_needsStartInTick 9 = .ok (.aload_n 0, 1) := by decide +kernel
theorem dX1_needsStartInTick_10 : decode cX1_needsStartInTick 10 = .ok (.dup, 1) := by decide +kernel
theorem dX1_needsStartInTick_11 : decode cX1_needsStartInTick 11 = .ok (.getfield 55, 3) := by decide +kernel
theorem dX1_needsStartInTick_14 : decode cX1_needsStartInTick 14 = .ok (.iconst 1, 1) := by decide +kernel
theorem dX1_needsStartInTick_15 : decode cX1_needsStartInTick 15 = .ok (.iadd, 1) := by decide +kernel
theorem dX1_needsStartInTick_16 : decode cX1_needsStartInTick 16 = .ok (.putfield 55, 3) := by decide +kernel
theorem dX1_needsStartInTick_19 : decode cX1_needsStartInTick 19 = .ok (.aload_n 0, 1) := by decide +kernel
theorem dX1_needsStartInTick_20 : decode cX1_needsStartInTick 20 = .ok (.dup, 1) := by decide +kernel
theorem dX1_needsStartInTick_21 : decode cX1_needsStartInTick 21 = .ok (.getfield 64, 3) := by decide +kernel
theorem dX1_needsStartInTick_24 : decode cX1_needsStartInTick 24 = .ok (.iconst 1, 1) := by decide +kernel
theorem dX1_needsStartInTick_25 : decode cX1_needsStartInTick 25 = .ok (.iadd, 1) := by decide +kernel
theorem dX1_needsStartInTick_26 : decode cX1_needsStartInTick 26 = .ok (.putfield 64, 3) := by decide +kernel
theorem dX1_needsStartInTick_29 : decode cX1_needsStartInTick 29 = .ok (.aload_n 0, 1) := by decide +kernel
theorem dX1_needsStartInTick_30 : decode cX1_needsStartInTick 30 = .ok (.getfield 58, 3) := by decide +kernel
theorem dX1_needsStartInTick_33 : decode cX1_needsStartInTick 33 = .ok (.ifCond .gt 16, 3) := by decide +kernel
theorem dX1_needsStartInTick_36 : decode cX1_needsStartInTick 36 = .ok (.aload_n 1, 1) := by decide +kernel
theorem dX1_needsStartInTick_37 : decode cX1_needsStartInTick 37 = .ok (.getfield 121, 3) := by decide +kernel
theorem dX1_needsStartInTick_40 : decode cX1_needsStartInTick 40 = .ok (.iconst 0, 1) := by decide +kernel
theorem dX1_needsStartInTick_41 : decode cX1_needsStartInTick 41 = .ok (.iaload, 1) := by decide +kernel
theorem dX1_needsStartInTick_42 : decode cX1_needsStartInTick 42 = .ok (.aload_n 0, 1) := by decide +kernel
theorem dX1_needsStartInTick_43 : decode cX1_needsStartInTick 43 = .ok (.getfield 55, 3) := by decide +kernel
theorem dX1_needsStartInTick_46 : decode cX1_needsStartInTick 46 = .ok (.if_icmp .ne 13, 3) := by decide +kernel
theorem dX1_needsStartInTick_49 : decode cX1_needsStartInTick 49 = .ok (.aload_n 0, 1) := by decide +kernel
theorem dX1_needsStartInTick_50 : decode cX1_needsStartInTick 50 = .ok (.dup, 1) := by decide +kernel
theorem dX1_needsStartInTick_51 : decode cX1_needsStartInTick 51 = .ok (.getfield 58, 3) := by decide +kernel
theorem dX1_needsStartInTick_54 : decode cX1_needsStartInTick 54 = .ok (.iconst 1, 1) := by decide +kernel
theorem dX1_needsStartInTick_55 : decode cX1_needsStartInTick 55 = .ok (.iadd, 1) := by decide +kernel
theorem dX1_needsStartInTick_56 : decode cX1_needsStartInTick 56 = .ok (.putfield 58, 3) := by decide +kernel
theorem dX1_needsStartInTick_59 : decode cX1_needsStartInTick 59 = .ok (.aload_n 0, 1) := by decide +kernel
theorem dX1_needsStartInTick_60 : decode cX1_needsStartInTick 60 = .ok (.getfield 58, 3) := by decide +kernel
theorem dX1_needsStartInTick_63 : decode cX1_needsStartInTick 63 = .ok (.ifCond .ne 44, 3) := by decide +kernel
theorem dX1_needsStartInTick_66 : decode cX1_needsStartInTick 66 = .ok (.aload_n 1, 1) := by decide +kernel
theorem dX1_needsStartInTick_67 : decode cX1_needsStartInTick 67 = .ok (.getfield 121, 3) := by decide +kernel
theorem dX1_needsStartInTick_70 : decode cX1_needsStartInTick 70 = .ok (.iconst 1, 1) := by decide +kernel
theorem dX1_needsStartInTick_71 : decode cX1_needsStartInTick 71 = .ok (.iaload, 1) := by decide +kernel
theorem dX1_needsStartInTick_72 : decode cX1_needsStartInTick 72 = .ok (.aload_n 0, 1) := by decide +kernel
theorem dX1_needsStartInTick_73 : decode cX1_needsStartInTick 73 = .ok (.getfield 55, 3) := by decide +kernel
theorem dX1_needsStartInTick_76 : decode cX1_needsStartInTick 76 = .ok (.if_icmp .ne 31, 3) := by decide +kernel
theorem dX1_needsStartInTick_79 : decode cX1_needsStartInTick 79 = .ok (.aload_n 1, 1) := by decide +kernel
theorem dX1_needsStartInTick_80 : decode cX1_needsStartInTick 80 = .ok (.getfield 67, 3) := by decide +kernel
theorem dX1_needsStartInTick_83 : decode cX1_needsStartInTick 83 = .ok (.iconst 2, 1) := by decide +kernel
theorem dX1_needsStartInTick_84 : decode cX1_needsStartInTick 84 = .ok (.if_icmp .ne 23, 3) := by decide +kernel
theorem dX1_needsStartInTick_87 : decode cX1_needsStartInTick 87 = .ok (.aload_n 1, 1) := by decide +kernel
theorem dX1_needsStartInTick_88 : decode cX1_needsStartInTick 88 = .ok (.iconst 3, 1) := by decide +kernel
theorem dX1_needsStartInTick_89 : decode cX1_needsStartInTick 89 = .ok (.putfield 67, 3) := by decide +kernel
theorem dX1_needsStartInTick_92 : decode cX1_needsStartInTick 92 = .ok (.aload_n 0, 1) := by decide +kernel
theorem dX1_needsStartInTick_93 : decode cX1_needsStartInTick 93 = .ok (.aload_n 0, 1) := by decide +kernel
theorem dX1_needsStartInTick_94 : decode cX1_needsStartInTick 94 = .ok (.getfield 61, 3) := by decide +kernel
theorem dX1_needsStartInTick_97 : decode cX1_needsStartInTick 97 = .ok (.aload_n 1, 1) := by decide +kernel
theorem dX1_needsStartInTick_98 : decode cX1_needsStartInTick 98 = .ok (.getfield 111, 3) := by decide +kernel
theorem dX1_needsStartInTick_101 : decode cX1_needsStartInTick 101 = .ok (.invokestatic 78, 3) := by decide +kernel
theorem dX1_needsStartInTick_104 : decode cX1_needsStartInTick 104 = .ok (.putfield 61, 3) := by decide +kernel
theorem dX1_needsStartInTick_107 : decode cX1_needsStartInTick 107 = .ok (.aload_n 0, 1) := by decide +kernel
theorem dX1_needsStartInTick_108 : decode cX1_needsStartInTick 108 = .ok (.getfield 58, 3) := by decide +kernel
theorem dX1_needsStartInTick_111 : decode cX1_needsStartInTick 111 = .ok (.aload_n 0, 1) := by decide +kernel
theorem dX1_needsStartInTick_112 : decode cX1_needsStartInTick 112 = .ok (.getfield 9, 3) := by decide +kernel
theorem dX1_needsStartInTick_115 : decode cX1_needsStartInTick 115 = .ok (.iconst 1, 1) := by decide +kernel
theorem dX1_needsStartInTick_116 : decode cX1_needsStartInTick 116 = .ok (.iaload, 1) := by decide +kernel
theorem dX1_needsStartInTick_117 : decode cX1_needsStartInTick 117 = .ok (.if_icmp .lt 7, 3) := by decide +kernel
theorem dX1_needsStartInTick_120 : decode cX1_needsStartInTick 120 = .ok (.iconst 1, 1) := by decide +kernel
theorem dX1_needsStartInTick_121 : decode cX1_needsStartInTick 121 = .ok (.goto 4, 3) := by decide +kernel
theorem dX1_needsStartInTick_124 : decode cX1_needsStartInTick 124 = .ok (.iconst 0, 1) := by decide +kernel
theorem dX1_needsStartInTick_125 : decode cX1_needsStartInTick 125 = .ok (.istore_n 2, 1) := by decide +kernel
theorem dX1_needsStartInTick_126 : decode cX1_needsStartInTick 126 = .ok (.aload_n 1, 1) := by decide +kernel
theorem dX1_needsStartInTick_127 : decode cX1_needsStartInTick 127 = .ok (.getfield 67, 3) := by decide +kernel
theorem dX1_needsStartInTick_130 : decode cX1_needsStartInTick 130 = .ok (.iconst 2, 1) := by decide +kernel
theorem dX1_needsStartInTick_131 : decode cX1_needsStartInTick 131 = .ok (.if_icmp .ne 23, 3) := by decide +kernel
theorem dX1_needsStartInTick_134 : decode cX1_needsStartInTick 134 = .ok (.aload_n 0, 1) := by decide +kernel
theorem dX1_needsStartInTick_135 : decode cX1_needsStartInTick 135 = .ok (.getfield 55, 3) := by decide +kernel
theorem dX1_needsStartInTick_138 : decode cX1_needsStartInTick 138 = .ok (.bipush 10, 2) := by decide +kernel
theorem dX1_needsStartInTick_140 : decode cX1_needsStartInTick 140 = .ok (.aload_n 0, 1) := by decide +kernel
theorem dX1_needsStartInTick_141 : decode cX1_needsStartInTick 141 = .ok (.getfield 9, 3) := by decide +kernel
theorem dX1_needsStartInTick_144 : decode cX1_needsStartInTick 144 = .ok (.iconst 1, 1) := by decide +kernel
theorem dX1_needsStartInTick_145 : decode cX1_needsStartInTick 145 = .ok (.iaload, 1) := by decide +kernel
theorem dX1_needsStartInTick_146 : decode cX1_needsStartInTick 146 = .ok (.imul, 1) := by decide +kernel
theorem dX1_needsStartInTick_147 : decode cX1_needsStartInTick 147 = .ok (.if_icmp .lt 7, 3) := by decide +kernel
theorem dX1_needsStartInTick_150 : decode cX1_needsStartInTick 150 = .ok (.iconst 1, 1) := by decide +kernel
theorem dX1_needsStartInTick_151 : decode cX1_needsStartInTick 151 = .ok (.goto 4, 3) := by decide +kernel
theorem dX1_needsStartInTick_154 : decode cX1_needsStartInTick 154 = .ok (.iconst 0, 1) := by decide +kernel
theorem dX1_needsStartInTick_155 : decode cX1_needsStartInTick 155 = .ok (.istore_n 3, 1) := by decide +kernel
theorem dX1_needsStartInTick_156 : decode cX1_needsStartInTick 156 = .ok (.iload_n 2, 1) := by decide +kernel
theorem dX1_needsStartInTick_157 : decode cX1_needsStartInTick 157 = .ok (.ifCond .ne 7, 3) := by decide +kernel
theorem dX1_needsStartInTick_160 : decode cX1_needsStartInTick 160 = .ok (.iload_n 3, 1) := by decide +kernel
theorem dX1_needsStartInTick_161 : decode cX1_needsStartInTick 161 = .ok (.ifCond .eq 7, 3) := by decide +kernel
theorem dX1_needsStartInTick_164 : decode cX1_needsStartInTick 164 = .ok (.iconst 1, 1) := by decide +kernel
theorem dX1_needsStartInTick_165 : decode cX1_needsStartInTick 165 = .ok (.goto 4, 3) := by decide +kernel
theorem dX1_needsStartInTick_168 : decode cX1_needsStartInTick 168 = .ok (.iconst 0, 1) := by decide +kernel
theorem dX1_needsStartInTick_169 : decode cX1_needsStartInTick 169 = .ok (.ireturn, 1) := by decide +kernel
theorem dX2_init_0 : decode cX2_init 0 = .ok (.aload_n 0, 1) := by decide +kernel
theorem dX2_init_1 : decode cX2_init 1 = .ok (.invokespecial 3, 3) := by decide +kernel
theorem dX2_init_4 : decode cX2_init 4 = .ok (.aload_n 0, 1) := by decide +kernel
theorem dX2_init_5 : decode cX2_init 5 = .ok (.bipush 6, 2) := by decide +kernel
theorem dX2_init_7 : decode cX2_init 7 = .ok (.anewarray 9, 3) := by decide +kernel
theorem dX2_init_10 : decode cX2_init 10 = .ok (.putfield 11, 3) := by decide +kernel
theorem dX2_init_13 : decode cX2_init 13 = .ok (.iconst 0, 1) := by decide +kernel
theorem dX2_init_14 : decode cX2_init 14 = .ok (.istore_n 1, 1) := by decide +kernel
theorem dX2_init_15 : decode cX2_init 15 = .ok (.iload_n 1, 1) := by decide +kernel
theorem dX2_init_16 : decode cX2_init 16 = .ok (.bipush 6, 2) := by decide +kernel
theorem dX2_init_18 : decode cX2_init 18 = .ok (.if_icmp .ge 22, 3) := by decide +kernel
theorem dX2_init_21 : decode cX2_init 21 = .ok (.aload_n 0, 1) := by decide +kernel
theorem dX2_init_22 : decode cX2_init 22 = .ok (.getfield 11, 3) := by decide +kernel
theorem dX2_init_25 : decode cX2_init 25 = .ok (.iload_n 1, 1) := by decide +kernel
theorem dX2_init_26 : decode cX2_init 26 = .ok (.new 9, 3) := by decide +kernel
theorem dX2_init_29 : decode cX2_init 29 = .ok (.dup, 1) := by decide +kernel
theorem dX2_init_30 : decode cX2_init 30 = .ok (.invokespecial 17, 3) := by decide +kernel
theorem dX2_init_33 : decode cX2_init 33 = .ok (.aastore, 1) := by decide +kernel
theorem dX2_init_34 : decode cX2_init 34 = .ok (.iinc 1 1, 3) := by decide +kernel
theorem dX2_init_37 : decode cX2_init 37 = .ok (.goto (-22), 3) := by decide +kernel
theorem dX2_init_40 : decode cX2_init 40 = .ok (.return_, 1) := by decide +kernel
theorem dX2_record_0 : decode cX2_record 0 = .ok (.aload_n 0, 1) := by decide +kernel
theorem dX2_record_1 : decode cX2_record 1 = .ok (.getfield 11, 3) := by decide +kernel
theorem dX2_record_4 : decode cX2_record 4 = .ok (.aload_n 0, 1) := by decide +kernel
theorem dX2_record_5 : decode cX2_record 5 = .ok (.getfield 18, 3) := by decide +kernel
theorem dX2_record_8 : decode cX2_record 8 = .ok (.bipush 6, 2) := by decide +kernel
theorem dX2_record_10 : decode cX2_record 10 = .ok (.invokestatic 22, 3) := by decide +kernel
theorem dX2_record_13 : decode cX2_record 13 = .ok (.aaload, 1) := by decide +kernel
theorem dX2_record_14 : decode cX2_record 14 = .ok (.aload_n 1, 1) := by decide +kernel
theorem dX2_record_15 : decode cX2_record 15 = .ok (.invokevirtual 28, 3) := by decide +kernel
theorem dX2_record_18 : decode cX2_record 18 = .ok (.aload_n 0, 1) := by decide +kernel
theorem dX2_record_19 : decode cX2_record 19 = .ok (.dup, 1) := by decide +kernel
theorem dX2_record_20 : decode cX2_record 20 = .ok (.getfield 18, 3) := by decide +kernel
theorem dX2_record_23 : decode cX2_record 23 = .ok (.iconst 1, 1) := by decide +kernel
theorem dX2_record_24 : decode cX2_record 24 = .ok (.iadd, 1) := by decide +kernel
theorem dX2_record_25 : decode cX2_record 25 = .ok (.putfield 18, 3) := by decide +kernel
theorem dX2_record_28 : decode cX2_record 28 = .ok (.aload_n 0, 1) := by decide +kernel
theorem dX2_record_29 : decode cX2_record 29 = .ok (.aload_n 0, 1) := by decide +kernel
theorem dX2_record_30 : decode cX2_record 30 = .ok (.getfield 32, 3) := by decide +kernel
theorem dX2_record_33 : decode cX2_record 33 = .ok (.iconst 1, 1) := by decide +kernel
theorem dX2_record_34 : decode cX2_record 34 = .ok (.iadd, 1) := by decide +kernel
theorem dX2_record_35 : decode cX2_record 35 = .ok (.bipush 6, 2) := by decide +kernel
theorem dX2_record_37 : decode cX2_record 37 = .ok (.invokestatic 35, 3) := by decide +kernel
theorem dX2_record_40 : decode cX2_record 40 = .ok (.putfield 32, 3) := by decide +kernel
theorem dX2_record_43 : decode cX2_record 43 = .ok (.return_, 1) := by decide +kernel
theorem dX2_takeBack_0 : decode cX2_takeBack 0 = .ok (.aload_n 0, 1) := by decide +kernel
theorem dX2_takeBack_1 : decode cX2_takeBack 1 = .ok (.dup, 1) := by decide +kernel
theorem dX2_takeBack_2 : decode cX2_takeBack 2 = .ok (.getfield 18, 3) := by decide +kernel
theorem dX2_takeBack_5 : decode cX2_takeBack 5 = .ok (.iconst 1, 1) := by decide +kernel
theorem dX2_takeBack_6 : decode cX2_takeBack 6 = .ok (.isub, 1) := by decide +kernel
theorem dX2_takeBack_7 : decode cX2_takeBack 7 = .ok (.putfield 18, 3) := by decide +kernel
theorem dX2_takeBack_10 : decode cX2_takeBack 10 = .ok (.aload_n 1, 1) := by decide +kernel
theorem dX2_takeBack_11 : decode cX2_takeBack 11 = .ok (.aload_n 0, 1) := by decide +kernel
theorem dX2_takeBack_12 : decode cX2_takeBack 12 = .ok (.getfield 11, 3) := by decide +kernel
theorem dX2_takeBack_15 : decode cX2_takeBack 15 = .ok (.aload_n 0, 1) := by decide +kernel
theorem dX2_takeBack_16 : decode cX2_takeBack 16 = .ok (.getfield 18, 3) := by decide +kernel
theorem dX2_takeBack_19 : decode cX2_takeBack 19 = .ok (.bipush 6, 2) := by decide +kernel
theorem dX2_takeBack_21 : decode cX2_takeBack 21 = .ok (.invokestatic 22, 3) := by decide +kernel
theorem dX2_takeBack_24 : decode cX2_takeBack 24 = .ok (.aaload, 1) := by decide +kernel
theorem dX2_takeBack_25 : decode cX2_takeBack 25 = .ok (.invokevirtual 28, 3) := by decide +kernel
theorem dX2_takeBack_28 : decode cX2_takeBack 28 = .ok (.aload_n 0, 1) := by decide +kernel
theorem dX2_takeBack_29 : decode cX2_takeBack 29 = .ok (.dup, 1) := by decide +kernel
theorem dX2_takeBack_30 : decode cX2_takeBack 30 = .ok (.getfield 32, 3) := by decide +kernel
theorem dX2_takeBack_33 : decode cX2_takeBack 33 = .ok (.iconst 1, 1) := by decide +kernel
theorem dX2_takeBack_34 : decode cX2_takeBack 34 = .ok (.isub, 1) := by decide +kernel
theorem dX2_takeBack_35 : decode cX2_takeBack 35 = .ok (.putfield 32, 3) := by decide +kernel
theorem dX2_takeBack_38 : decode cX2_takeBack 38 = .ok (.return_, 1) := by decide +kernel
theorem dX3_init_0 : decode cX3_init 0 = .ok (.aload_n 0, 1) := by decide +kernel
theorem dX3_init_1 : decode cX3_init 1 = .ok (.invokespecial 3, 3) := by decide +kernel
theorem dX3_init_4 : decode cX3_init 4 = .ok (.aload_n 0, 1) := by decide +kernel
theorem dX3_init_5 : decode cX3_init 5 = .ok (.bipush 64, 2) := by decide +kernel
theorem dX3_init_7 : decode cX3_init 7 = .ok (.newarray .int, 2) := by decide +kernel
theorem dX3_init_9 : decode cX3_init 9 = .ok (.putfield 9, 3) := by decide +kernel
theorem dX3_init_12 : decode cX3_init 12 = .ok (.return_, 1) := by decide +kernel
theorem dX3_charactersIn_0 : decode cX3_charactersIn 0 = .ok (.lload_n 0, 1) := by decide +kernel
theorem dX3_charactersIn_1 : decode cX3_charactersIn 1 = .ok (.lstore_n 2, 1) := by decide +kernel
theorem dX3_charactersIn_2 : decode cX3_charactersIn 2 = .ok (.iconst 0, 1) := by decide +kernel
theorem dX3_charactersIn_3 : decode cX3_charactersIn 3 = .ok (.istore 4, 2) := by decide +kernel
theorem dX3_charactersIn_5 : decode cX3_charactersIn 5 = .ok (.iload 4, 2) := by decide +kernel
theorem dX3_charactersIn_7 : decode cX3_charactersIn 7 = .ok (.bipush 8, 2) := by decide +kernel
theorem dX3_charactersIn_9 : decode cX3_charactersIn 9 = .ok (.if_icmp .ge 30, 3) := by decide +kernel
theorem dX3_charactersIn_12 : decode cX3_charactersIn 12 = .ok (.lload_n 2, 1) := by decide +kernel
theorem dX3_charactersIn_13 : decode cX3_charactersIn 13 = .ok (.ldc2_w 15, 3) := by decide +kernel
theorem dX3_charactersIn_16 : decode cX3_charactersIn 16 = .ok (.land, 1) := by decide +kernel
theorem dX3_charactersIn_17 : decode cX3_charactersIn 17 = .ok (.l2i, 1) := by decide +kernel
theorem dX3_charactersIn_18 : decode cX3_charactersIn 18 = .ok (.bipush 33, 2) := by decide +kernel
theorem dX3_charactersIn_20 : decode cX3_charactersIn 20 = .ok (.bipush 126, 2) := by decide +kernel
theorem dX3_charactersIn_22 : decode cX3_charactersIn 22 = .ok (.invokestatic 17, 3) := by decide +kernel
theorem dX3_charactersIn_25 : decode cX3_charactersIn 25 = .ok (.ifCond .eq 14, 3) := by decide +kernel
theorem dX3_charactersIn_28 : decode cX3_charactersIn 28 = .ok (.lload_n 2, 1) := by decide +kernel
theorem dX3_charactersIn_29 : decode cX3_charactersIn 29 = .ok (.bipush 8, 2) := by decide +kernel
theorem dX3_charactersIn_31 : decode cX3_charactersIn 31 = .ok (.lushr, 1) := by decide +kernel
theorem dX3_charactersIn_32 : decode cX3_charactersIn 32 = .ok (.lstore_n 2, 1) := by decide +kernel
theorem dX3_charactersIn_33 : decode cX3_charactersIn 33 = .ok (.iinc 4 1, 3) := by decide +kernel
theorem dX3_charactersIn_36 : decode cX3_charactersIn 36 = .ok (.goto (-31), 3) := by decide +kernel
theorem dX3_charactersIn_39 : decode cX3_charactersIn 39 = .ok (.lload_n 2, 1) := by decide +kernel
theorem dX3_charactersIn_40 : decode cX3_charactersIn 40 = .ok (.lconst 0, 1) := by decide +kernel
theorem dX3_charactersIn_41 : decode cX3_charactersIn 41 = .ok (.lcmp, 1) := by decide +kernel
theorem dX3_charactersIn_42 : decode cX3_charactersIn 42 = .ok (.ifCond .ne 8, 3) := by decide +kernel
theorem dX3_charactersIn_45 : decode cX3_charactersIn 45 = .ok (.iload 4, 2) := by decide +kernel
theorem dX3_charactersIn_47 : decode cX3_charactersIn 47 = .ok (.goto 4, 3) := by decide +kernel
theorem dX3_charactersIn_50 : decode cX3_charactersIn 50 = .ok (.iconst 0, 1) := by decide +kernel
theorem dX3_charactersIn_51 : decode cX3_charactersIn 51 = .ok (.ireturn, 1) := by decide +kernel
theorem dX3_append_0 : decode cX3_append 0 = .ok (.iload_n 3, 1) := by decide +kernel
theorem dX3_append_1 : decode cX3_append 1 = .ok (.iconst 1, 1) := by decide +kernel
theorem dX3_append_2 : decode cX3_append 2 = .ok (.isub, 1) := by decide +kernel
theorem dX3_append_3 : decode cX3_append 3 = .ok (.istore 4, 2) := by decide +kernel
theorem dX3_append_5 : decode cX3_append 5 = .ok (.iload 4, 2) := by decide +kernel
theorem dX3_append_7 : decode cX3_append 7 = .ok (.ifCond .lt 49, 3) := by decide +kernel
theorem dX3_append_10 : decode cX3_append 10 = .ok (.aload_n 0, 1) := by decide +kernel
theorem dX3_append_11 : decode cX3_append 11 = .ok (.getfield 21, 3) := by decide +kernel
theorem dX3_append_14 : decode cX3_append 14 = .ok (.bipush 64, 2) := by decide +kernel
theorem dX3_append_16 : decode cX3_append 16 = .ok (.if_icmp .ge 40, 3) := by decide +kernel
theorem dX3_append_19 : decode cX3_append 19 = .ok (.aload_n 0, 1) := by decide +kernel
theorem dX3_append_20 : decode cX3_append 20 = .ok (.getfield 9, 3) := by decide +kernel
theorem dX3_append_23 : decode cX3_append 23 = .ok (.aload_n 0, 1) := by decide +kernel
theorem dX3_append_24 : decode cX3_append 24 = .ok (.getfield 21, 3) := by decide +kernel
theorem dX3_append_27 : decode cX3_append 27 = .ok (.lload_n 1, 1) := by decide +kernel
theorem dX3_append_28 : decode cX3_append 28 = .ok (.bipush 8, 2) := by decide +kernel
theorem dX3_append_30 : decode cX3_append 30 = .ok (.iload 4, 2) := by decide +kernel
theorem dX3_append_32 : decode cX3_append 32 = .ok (.imul, 1) := by decide +kernel
theorem dX3_append_33 : decode cX3_append 33 = .ok (.lushr, 1) := by decide +kernel
theorem dX3_append_34 : decode cX3_append 34 = .ok (.ldc2_w 15, 3) := by decide +kernel
theorem dX3_append_37 : decode cX3_append 37 = .ok (.land, 1) := by decide +kernel
theorem dX3_append_38 : decode cX3_append 38 = .ok (.l2i, 1) := by decide +kernel
theorem dX3_append_39 : decode cX3_append 39 = .ok (.iastore, 1) := by decide +kernel
theorem dX3_append_40 : decode cX3_append 40 = .ok (.aload_n 0, 1) := by decide +kernel
theorem dX3_append_41 : decode cX3_append 41 = .ok (.dup, 1) := by decide +kernel
theorem dX3_append_42 : decode cX3_append 42 = .ok (.getfield 21, 3) := by decide +kernel
theorem dX3_append_45 : decode cX3_append 45 = .ok (.iconst 1, 1) := by decide +kernel
theorem dX3_append_46 : decode cX3_append 46 = .ok (.iadd, 1) := by decide +kernel
theorem dX3_append_47 : decode cX3_append 47 = .ok (.putfield 21, 3) := by decide +kernel
theorem dX3_append_50 : decode cX3_append 50 = .ok (.iinc 4 (-1), 3) := by decide +kernel
theorem dX3_append_53 : decode cX3_append 53 = .ok (.goto (-48), 3) := by decide +kernel
theorem dX3_append_56 : decode cX3_append 56 = .ok (.return_, 1) := by decide +kernel
theorem dX3_clear_0 : decode cX3_clear 0 = .ok (.aload_n 0, 1) := by decide +kernel
theorem dX3_clear_1 : decode cX3_clear 1 = .ok (.iconst 0, 1) := by decide +kernel
theorem dX3_clear_2 : decode cX3_clear 2 = .ok (.putfield 21, 3) := by decide +kernel
theorem dX3_clear_5 : decode cX3_clear 5 = .ok (.return_, 1) := by decide +kernel
theorem dX3_firstFault_0 : decode cX3_firstFault 0 = .ok (.iconst 0, 1) := by decide +kernel
theorem dX3_firstFault_1 : decode cX3_firstFault 1 = .ok (.istore_n 1, 1) := by decide +kernel
theorem dX3_firstFault_2 : decode cX3_firstFault 2 = .ok (.iload_n 1, 1) := by decide +kernel
theorem dX3_firstFault_3 : decode cX3_firstFault 3 = .ok (.aload_n 0, 1) := by decide +kernel
theorem dX3_firstFault_4 : decode cX3_firstFault 4 = .ok (.getfield 21, 3) := by decide +kernel
theorem dX3_firstFault_7 : decode cX3_firstFault 7 = .ok (.if_icmp .ge 25, 3) := by decide +kernel
theorem dX3_firstFault_10 : decode cX3_firstFault 10 = .ok (.iload_n 1, 1) := by decide +kernel
theorem dX3_firstFault_11 : decode cX3_firstFault 11 = .ok (.bipush 64, 2) := by decide +kernel
theorem dX3_firstFault_13 : decode cX3_firstFault 13 = .ok (.if_icmp .ge 19, 3) := by decide +kernel
theorem dX3_firstFault_16 : decode cX3_firstFault 16 = .ok (.aload_n 0, 1) := by decide +kernel
theorem dX3_firstFault_17 : decode cX3_firstFault 17 = .ok (.iload_n 1, 1) := by decide +kernel
theorem dX3_firstFault_18 : decode cX3_firstFault 18 = .ok (.invokevirtual 25, 3) := by decide +kernel
theorem dX3_firstFault_21 : decode cX3_firstFault 21 = .ok (.ifCond .ge 5, 3) := by decide +kernel
theorem dX3_firstFault_24 : decode cX3_firstFault 24 = .ok (.iload_n 1, 1) := by decide +kernel
theorem dX3_firstFault_25 : decode cX3_firstFault 25 = .ok (.ireturn, 1) := by decide +kernel
theorem dX3_firstFault_26 : decode cX3_firstFault 26 = .ok (.iinc 1 1, 3) := by decide +kernel
theorem dX3_firstFault_29 : decode cX3_firstFault 29 = .ok (.goto (-27), 3) := by decide +kernel
theorem dX3_firstFault_32 : decode cX3_firstFault 32 = .ok (.aload_n 0, 1) := by decide +kernel
theorem dX3_firstFault_33 : decode cX3_firstFault 33 = .ok (.getfield 21, 3) := by decide +kernel
theorem dX3_firstFault_36 : decode cX3_firstFault 36 = .ok (.ifCond .eq 13, 3) := by decide +kernel
theorem dX3_firstFault_39 : decode cX3_firstFault 39 = .ok (.aload_n 0, 1) := by decide +kernel
theorem dX3_firstFault_40 : decode cX3_firstFault 40 = .ok (.getfield 21, 3) := by decide +kernel
theorem dX3_firstFault_43 : decode cX3_firstFault 43 = .ok (.iconst 2, 1) := by decide +kernel
theorem dX3_firstFault_44 : decode cX3_firstFault 44 = .ok (.irem, 1) := by decide +kernel
theorem dX3_firstFault_45 : decode cX3_firstFault 45 = .ok (.iconst 1, 1) := by decide +kernel
theorem dX3_firstFault_46 : decode cX3_firstFault 46 = .ok (.if_icmp .ne 10, 3) := by decide +kernel
theorem dX3_firstFault_49 : decode cX3_firstFault 49 = .ok (.aload_n 0, 1) := by decide +kernel
theorem dX3_firstFault_50 : decode cX3_firstFault 50 = .ok (.getfield 21, 3) := by decide +kernel
theorem dX3_firstFault_53 : decode cX3_firstFault 53 = .ok (.goto 5, 3) := by decide +kernel
theorem dX3_firstFault_56 : decode cX3_firstFault 56 = .ok (.bipush (-6), 2) := by decide +kernel
theorem dX3_firstFault_58 : decode cX3_firstFault 58 = .ok (.ireturn, 1) := by decide +kernel
theorem dX3_words_0 : decode cX3_words 0 = .ok (.aload_n 0, 1) := by decide +kernel
theorem dX3_words_1 : decode cX3_words 1 = .ok (.getfield 21, 3) := by decide +kernel
theorem dX3_words_4 : decode cX3_words 4 = .ok (.iconst 2, 1) := by decide +kernel
theorem dX3_words_5 : decode cX3_words 5 = .ok (.idiv, 1) := by decide +kernel
theorem dX3_words_6 : decode cX3_words 6 = .ok (.ireturn, 1) := by decide +kernel
theorem dX3_wordAt_0 : decode cX3_wordAt 0 = .ok (.bipush 16, 2) := by decide +kernel
theorem dX3_wordAt_2 : decode cX3_wordAt 2 = .ok (.aload_n 0, 1) := by decide +kernel
theorem dX3_wordAt_3 : decode cX3_wordAt 3 = .ok (.iconst 2, 1) := by decide +kernel
theorem dX3_wordAt_4 : decode cX3_wordAt 4 = .ok (.iload_n 1, 1) := by decide +kernel
theorem dX3_wordAt_5 : decode cX3_wordAt 5 = .ok (.imul, 1) := by decide +kernel
theorem dX3_wordAt_6 : decode cX3_wordAt 6 = .ok (.invokevirtual 25, 3) := by decide +kernel
theorem dX3_wordAt_9 : decode cX3_wordAt 9 = .ok (.imul, 1) := by decide +kernel
theorem dX3_wordAt_10 : decode cX3_wordAt 10 = .ok (.aload_n 0, 1) := by decide +kernel
theorem dX3_wordAt_11 : decode cX3_wordAt 11 = .ok (.iconst 2, 1) := by decide +kernel
theorem dX3_wordAt_12 : decode cX3_wordAt 12 = .ok (.iload_n 1, 1) := by decide +kernel
theorem dX3_wordAt_13 : decode cX3_wordAt 13 = .ok (.imul, 1) := by decide +kernel
theorem dX3_wordAt_14 : decode cX3_wordAt 14 = .ok (.iconst 1, 1) := by decide +kernel
theorem dX3_wordAt_15 : decode cX3_wordAt 15 = .ok (.iadd, 1) := by decide +kernel
theorem dX3_wordAt_16 : decode cX3_wordAt 16 = .ok (.invokevirtual 25, 3) := by decide +kernel
theorem dX3_wordAt_19 : decode cX3_wordAt 19 = .ok (.iadd, 1) := by decide +kernel
theorem dX3_wordAt_20 : decode cX3_wordAt 20 = .ok (.ireturn, 1) := by decide +kernel
theorem dX3_sumOfWords_0 : decode cX3_sumOfWords 0 = .ok (.iconst 1, 1) := by decide +kernel
theorem dX3_sumOfWords_1 : decode cX3_sumOfWords 1 = .ok (.istore_n 1, 1) := by decide +kernel
theorem dX3_sumOfWords_2 : decode cX3_sumOfWords 2 = .ok (.iconst 0, 1) := by decide +kernel
theorem dX3_sumOfWords_3 : decode cX3_sumOfWords 3 = .ok (.istore_n 2, 1) := by decide +kernel
theorem dX3_sumOfWords_4 : decode cX3_sumOfWords 4 = .ok (.iload_n 2, 1) := by decide +kernel
theorem dX3_sumOfWords_5 : decode cX3_sumOfWords 5 = .ok (.aload_n 0, 1) := by decide +kernel
theorem dX3_sumOfWords_6 : decode cX3_sumOfWords 6 = .ok (.invokevirtual 29, 3) := by decide +kernel
theorem dX3_sumOfWords_9 : decode cX3_sumOfWords 9 = .ok (.if_icmp .ge 19, 3) := by decide +kernel
theorem dX3_sumOfWords_12 : decode cX3_sumOfWords 12 = .ok (.iload_n 1, 1) := by decide +kernel
theorem dX3_sumOfWords_13 : decode cX3_sumOfWords 13 = .ok (.aload_n 0, 1) := by decide +kernel
theorem dX3_sumOfWords_14 : decode cX3_sumOfWords 14 = .ok (.iload_n 2, 1) := by decide +kernel
theorem dX3_sumOfWords_15 : decode cX3_sumOfWords 15 = .ok (.invokevirtual 33, 3) := by decide +kernel
theorem dX3_sumOfWords_18 : decode cX3_sumOfWords 18 = .ok (.invokestatic 36, 3) := by decide +kernel
theorem dX3_sumOfWords_21 : decode cX3_sumOfWords 21 = .ok (.istore_n 1, 1) := by decide +kernel
theorem dX3_sumOfWords_22 : decode cX3_sumOfWords 22 = .ok (.iinc 2 1, 3) := by decide +kernel
theorem dX3_sumOfWords_25 : decode cX3_sumOfWords 25 = .ok (.goto (-21), 3) := by decide +kernel
theorem dX3_sumOfWords_28 : decode cX3_sumOfWords 28 = .ok (.iload_n 1, 1) := by decide +kernel
theorem dX3_sumOfWords_29 : decode cX3_sumOfWords 29 = .ok (.ireturn, 1) := by decide +kernel
theorem dX3_digitAt_0 : decode cX3_digitAt 0 = .ok (.iload_n 1, 1) := by decide +kernel
theorem dX3_digitAt_1 : decode cX3_digitAt 1 = .ok (.iconst 0, 1) := by decide +kernel
theorem dX3_digitAt_2 : decode cX3_digitAt 2 = .ok (.bipush 63, 2) := by decide +kernel
theorem dX3_digitAt_4 : decode cX3_digitAt 4 = .ok (.invokestatic 17, 3) := by decide +kernel
theorem dX3_digitAt_7 : decode cX3_digitAt 7 = .ok (.ifCond .eq 12, 3) := by decide +kernel
theorem dX3_digitAt_10 : decode cX3_digitAt 10 = .ok (.aload_n 0, 1) := by decide +kernel
theorem dX3_digitAt_11 : decode cX3_digitAt 11 = .ok (.getfield 9, 3) := by decide +kernel
theorem dX3_digitAt_14 : decode cX3_digitAt 14 = .ok (.iload_n 1, 1) := by decide +kernel
theorem dX3_digitAt_15 : decode cX3_digitAt 15 = .ok (.iaload, 1) := by decide +kernel
theorem dX3_digitAt_16 : decode cX3_digitAt 16 = .ok (.goto 4, 3) := by decide +kernel
theorem dX3_digitAt_19 : decode cX3_digitAt 19 = .ok (.iconst 0, 1) := by decide +kernel
theorem dX3_digitAt_20 : decode cX3_digitAt 20 = .ok (.istore_n 2, 1) := by decide +kernel
theorem dX3_digitAt_21 : decode cX3_digitAt 21 = .ok (.iload_n 2, 1) := by decide +kernel
theorem dX3_digitAt_22 : decode cX3_digitAt 22 = .ok (.bipush 48, 2) := by decide +kernel
theorem dX3_digitAt_24 : decode cX3_digitAt 24 = .ok (.bipush 57, 2) := by decide +kernel
theorem dX3_digitAt_26 : decode cX3_digitAt 26 = .ok (.invokestatic 17, 3) := by decide +kernel
theorem dX3_digitAt_29 : decode cX3_digitAt 29 = .ok (.ifCond .eq 8, 3) := by decide +kernel
theorem dX3_digitAt_32 : decode cX3_digitAt 32 = .ok (.iload_n 2, 1) := by decide +kernel
theorem dX3_digitAt_33 : decode cX3_digitAt 33 = .ok (.bipush 48, 2) := by decide +kernel
theorem dX3_digitAt_35 : decode cX3_digitAt 35 = .ok (.isub, 1) := by decide +kernel
theorem dX3_digitAt_36 : decode cX3_digitAt 36 = .ok (.ireturn, 1) := by decide +kernel
theorem dX3_digitAt_37 : decode cX3_digitAt 37 = .ok (.iload_n 2, 1) := by decide +kernel
theorem dX3_digitAt_38 : decode cX3_digitAt 38 = .ok (.bipush 97, 2) := by decide +kernel
theorem dX3_digitAt_40 : decode cX3_digitAt 40 = .ok (.bipush 102, 2) := by decide +kernel
theorem dX3_digitAt_42 : decode cX3_digitAt 42 = .ok (.invokestatic 17, 3) := by decide +kernel
theorem dX3_digitAt_45 : decode cX3_digitAt 45 = .ok (.ifCond .eq 13, 3) := by decide +kernel
theorem dX3_digitAt_48 : decode cX3_digitAt 48 = .ok (.iload_n 2, 1) := by decide +kernel
theorem dX3_digitAt_49 : decode cX3_digitAt 49 = .ok (.bipush 97, 2) := by decide +kernel
theorem dX3_digitAt_51 : decode cX3_digitAt 51 = .ok (.isub, 1) := by decide +kernel
theorem dX3_digitAt_52 : decode cX3_digitAt 52 = .ok (.bipush 10, 2) := by decide +kernel
theorem dX3_digitAt_54 : decode cX3_digitAt 54 = .ok (.iadd, 1) := by decide +kernel
theorem dX3_digitAt_55 : decode cX3_digitAt 55 = .ok (.goto 4, 3) := by decide +kernel
theorem dX3_digitAt_58 : decode cX3_digitAt 58 = .ok (.iconst (-1), 1) := by decide +kernel
theorem dX3_digitAt_59 : decode cX3_digitAt 59 = .ok (.ireturn, 1) := by decide +kernel
theorem dX4_init_0 : decode cX4_init 0 = .ok (.aload_n 0, 1) := by decide +kernel
theorem dX4_init_1 : decode cX4_init 1 = .ok (.invokespecial 3, 3) := by decide +kernel
theorem dX4_init_4 : decode cX4_init 4 = .ok (.aload_n 0, 1) := by decide +kernel
theorem dX4_init_5 : decode cX4_init 5 = .ok (.bipush 12, 2) := by decide +kernel
theorem dX4_init_7 : decode cX4_init 7 = .ok (.newarray .int, 2) := by decide +kernel
theorem dX4_init_9 : decode cX4_init 9 = .ok (.putfield 9, 3) := by decide +kernel
theorem dX4_init_12 : decode cX4_init 12 = .ok (.aload_n 0, 1) := by decide +kernel
theorem dX4_init_13 : decode cX4_init 13 = .ok (.bipush 12, 2) := by decide +kernel
theorem dX4_init_15 : decode cX4_init 15 = .ok (.newarray .int, 2) := by decide +kernel
theorem dX4_init_17 : decode cX4_init 17 = .ok (.putfield 15, 3) := by decide +kernel
theorem dX4_init_20 : decode cX4_init 20 = .ok (.aload_n 0, 1) := by decide +kernel
theorem dX4_init_21 : decode cX4_init 21 = .ok (.bipush 12, 2) := by decide +kernel
theorem dX4_init_23 : decode cX4_init 23 = .ok (.newarray .int, 2) := by decide +kernel
theorem dX4_init_25 : decode cX4_init 25 = .ok (.putfield 18, 3) := by decide +kernel
theorem dX4_init_28 : decode cX4_init 28 = .ok (.return_, 1) := by decide +kernel
theorem dX4_copyFrom_0 : decode cX4_copyFrom 0 = .ok (.aload_n 0, 1) := by decide +kernel
theorem dX4_copyFrom_1 : decode cX4_copyFrom 1 = .ok (.aload_n 1, 1) := by decide +kernel
theorem dX4_copyFrom_2 : decode cX4_copyFrom 2 = .ok (.getfield 21, 3) := by decide +kernel
theorem dX4_copyFrom_5 : decode cX4_copyFrom 5 = .ok (.putfield 21, 3) := by decide +kernel
theorem dX4_copyFrom_8 : decode cX4_copyFrom 8 = .ok (.aload_n 0, 1) := by decide +kernel
theorem dX4_copyFrom_9 : decode cX4_copyFrom 9 = .ok (.aload_n 1, 1) := by decide +kernel
theorem dX4_copyFrom_10 : decode cX4_copyFrom 10 = .ok (.getfield 25, 3) := by decide +kernel
theorem dX4_copyFrom_13 : decode cX4_copyFrom 13 = .ok (.putfield 25, 3) := by decide +kernel
theorem dX4_copyFrom_16 : decode cX4_copyFrom 16 = .ok (.aload_n 0, 1) := by decide +kernel
theorem dX4_copyFrom_17 : decode cX4_copyFrom 17 = .ok (.aload_n 1, 1) := by decide +kernel
theorem dX4_copyFrom_18 : decode cX4_copyFrom 18 = .ok (.getfield 28, 3) := by decide +kernel
theorem dX4_copyFrom_21 : decode cX4_copyFrom 21 = .ok (.putfield 28, 3) := by decide +kernel
theorem dX4_copyFrom_24 : decode cX4_copyFrom 24 = .ok (.aload_n 1, 1) := by decide +kernel
theorem dX4_copyFrom_25 : decode cX4_copyFrom 25 = .ok (.getfield 9, 3) := by decide +kernel
theorem dX4_copyFrom_28 : decode cX4_copyFrom 28 = .ok (.iconst 0, 1) := by decide +kernel
theorem dX4_copyFrom_29 : decode cX4_copyFrom 29 = .ok (.aload_n 0, 1) := by decide +kernel
theorem dX4_copyFrom_30 : decode cX4_copyFrom 30 = .ok (.getfield 9, 3) := by decide +kernel
theorem dX4_copyFrom_33 : decode cX4_copyFrom 33 = .ok (.iconst 0, 1) := by decide +kernel
theorem dX4_copyFrom_34 : decode cX4_copyFrom 34 = .ok (.bipush 12, 2) := by decide +kernel
theorem dX4_copyFrom_36 : decode cX4_copyFrom 36 = .ok (.invokestatic 31, 3) := by decide +kernel
theorem dX4_copyFrom_39 : decode cX4_copyFrom 39 = .ok (.aload_n 1, 1) := by decide +kernel
theorem dX4_copyFrom_40 : decode cX4_copyFrom 40 = .ok (.getfield 15, 3) := by decide +kernel
theorem dX4_copyFrom_43 : decode cX4_copyFrom 43 = .ok (.iconst 0, 1) := by decide +kernel
theorem dX4_copyFrom_44 : decode cX4_copyFrom 44 = .ok (.aload_n 0, 1) := by decide +kernel
theorem dX4_copyFrom_45 : decode cX4_copyFrom 45 = .ok (.getfield 15, 3) := by decide +kernel
theorem dX4_copyFrom_48 : decode cX4_copyFrom 48 = .ok (.iconst 0, 1) := by decide +kernel
theorem dX4_copyFrom_49 : decode cX4_copyFrom 49 = .ok (.bipush 12, 2) := by decide +kernel
theorem dX4_copyFrom_51 : decode cX4_copyFrom 51 = .ok (.invokestatic 31, 3) := by decide +kernel
theorem dX4_copyFrom_54 : decode cX4_copyFrom 54 = .ok (.aload_n 1, 1) := by decide +kernel
theorem dX4_copyFrom_55 : decode cX4_copyFrom 55 = .ok (.getfield 18, 3) := by decide +kernel
theorem dX4_copyFrom_58 : decode cX4_copyFrom 58 = .ok (.iconst 0, 1) := by decide +kernel
theorem dX4_copyFrom_59 : decode cX4_copyFrom 59 = .ok (.aload_n 0, 1) := by decide +kernel
theorem dX4_copyFrom_60 : decode cX4_copyFrom 60 = .ok (.getfield 18, 3) := by decide +kernel
theorem dX4_copyFrom_63 : decode cX4_copyFrom 63 = .ok (.iconst 0, 1) := by decide +kernel
theorem dX4_copyFrom_64 : decode cX4_copyFrom 64 = .ok (.bipush 12, 2) := by decide +kernel
theorem dX4_copyFrom_66 : decode cX4_copyFrom 66 = .ok (.invokestatic 31, 3) := by decide +kernel
theorem dX4_copyFrom_69 : decode cX4_copyFrom 69 = .ok (.return_, 1) := by decide +kernel
theorem dX4_add_0 : decode cX4_add 0 = .ok (.aload_n 0, 1) := by decide +kernel
theorem dX4_add_1 : decode cX4_add 1 = .ok (.dup, 1) := by decide +kernel
theorem dX4_add_2 : decode cX4_add 2 = .ok (.getfield 21, 3) := by decide +kernel
theorem dX4_add_5 : decode cX4_add 5 = .ok (.iconst 1, 1) := by decide +kernel
theorem dX4_add_6 : decode cX4_add 6 = .ok (.iadd, 1) := by decide +kernel
theorem dX4_add_7 : decode cX4_add 7 = .ok (.putfield 21, 3) := by decide +kernel
theorem dX4_add_10 : decode cX4_add 10 = .ok (.aload_n 0, 1) := by decide +kernel
theorem dX4_add_11 : decode cX4_add 11 = .ok (.aload_n 0, 1) := by decide +kernel
theorem dX4_add_12 : decode cX4_add 12 = .ok (.getfield 28, 3) := by decide +kernel
theorem dX4_add_15 : decode cX4_add 15 = .ok (.iconst 1, 1) := by decide +kernel
theorem dX4_add_16 : decode cX4_add 16 = .ok (.iadd, 1) := by decide +kernel
theorem dX4_add_17 : decode cX4_add 17 = .ok (.bipush 12, 2) := by decide +kernel
theorem dX4_add_19 : decode cX4_add 19 = .ok (.invokestatic 37, 3) := by decide +kernel
theorem dX4_add_22 : decode cX4_add 22 = .ok (.putfield 28, 3) := by decide +kernel
theorem dX4_add_25 : decode cX4_add 25 = .ok (.aload_n 0, 1) := by decide +kernel
theorem dX4_add_26 : decode cX4_add 26 = .ok (.iconst 0, 1) := by decide +kernel
theorem dX4_add_27 : decode cX4_add 27 = .ok (.invokevirtual 43, 3) := by decide +kernel
theorem dX4_add_30 : decode cX4_add 30 = .ok (.istore 4, 2) := by decide +kernel
theorem dX4_add_32 : decode cX4_add 32 = .ok (.aload_n 0, 1) := by decide +kernel
theorem dX4_add_33 : decode cX4_add 33 = .ok (.getfield 9, 3) := by decide +kernel
theorem dX4_add_36 : decode cX4_add 36 = .ok (.iload 4, 2) := by decide +kernel
theorem dX4_add_38 : decode cX4_add 38 = .ok (.iload_n 1, 1) := by decide +kernel
theorem dX4_add_39 : decode cX4_add 39 = .ok (.iastore, 1) := by decide +kernel
theorem dX4_add_40 : decode cX4_add 40 = .ok (.aload_n 0, 1) := by decide +kernel
theorem dX4_add_41 : decode cX4_add 41 = .ok (.getfield 15, 3) := by decide +kernel
theorem dX4_add_44 : decode cX4_add 44 = .ok (.iload 4, 2) := by decide +kernel
theorem dX4_add_46 : decode cX4_add 46 = .ok (.iload_n 2, 1) := by decide +kernel
theorem dX4_add_47 : decode cX4_add 47 = .ok (.iastore, 1) := by decide +kernel
theorem dX4_add_48 : decode cX4_add 48 = .ok (.aload_n 0, 1) := by decide +kernel
theorem dX4_add_49 : decode cX4_add 49 = .ok (.getfield 18, 3) := by decide +kernel
theorem dX4_add_52 : decode cX4_add 52 = .ok (.iload 4, 2) := by decide +kernel
theorem dX4_add_54 : decode cX4_add 54 = .ok (.iload_n 3, 1) := by decide +kernel
theorem dX4_add_55 : decode cX4_add 55 = .ok (.iastore, 1) := by decide +kernel
theorem dX4_add_56 : decode cX4_add 56 = .ok (.iload_n 2, 1) := by decide +kernel
theorem dX4_add_57 : decode cX4_add 57 = .ok (.iconst 1, 1) := by decide +kernel
theorem dX4_add_58 : decode cX4_add 58 = .ok (.if_icmp .ne 13, 3) := by decide +kernel
theorem dX4_add_61 : decode cX4_add 61 = .ok (.aload_n 0, 1) := by decide +kernel
theorem dX4_add_62 : decode cX4_add 62 = .ok (.dup, 1) := by decide +kernel
theorem dX4_add_63 : decode cX4_add 63 = .ok (.getfield 25, 3) := by decide +kernel
theorem dX4_add_66 : decode cX4_add 66 = .ok (.iconst 1, 1) := by decide +kernel
theorem dX4_add_67 : decode cX4_add 67 = .ok (.iadd, 1) := by decide +kernel
theorem dX4_add_68 : decode cX4_add 68 = .ok (.putfield 25, 3) := by decide +kernel
theorem dX4_add_71 : decode cX4_add 71 = .ok (.return_, 1) := by decide +kernel
theorem dX4_indexOf_0 : decode cX4_indexOf 0 = .ok (.aload_n 0, 1) := by decide +kernel
theorem dX4_indexOf_1 : decode cX4_indexOf 1 = .ok (.getfield 21, 3) := by decide +kernel
theorem dX4_indexOf_4 : decode cX4_indexOf 4 = .ok (.iconst 1, 1) := by decide +kernel
theorem dX4_indexOf_5 : decode cX4_indexOf 5 = .ok (.isub, 1) := by decide +kernel
theorem dX4_indexOf_6 : decode cX4_indexOf 6 = .ok (.iload_n 1, 1) := by decide +kernel
theorem dX4_indexOf_7 : decode cX4_indexOf 7 = .ok (.isub, 1) := by decide +kernel
theorem dX4_indexOf_8 : decode cX4_indexOf 8 = .ok (.bipush 12, 2) := by decide +kernel
theorem dX4_indexOf_10 : decode cX4_indexOf 10 = .ok (.invokestatic 47, 3) := by decide +kernel
theorem dX4_indexOf_13 : decode cX4_indexOf 13 = .ok (.ireturn, 1) := by decide +kernel
theorem dX5_init_0 : decode cX5_init 0 = .ok (.aload_n 0, 1) := by decide +kernel
theorem dX5_init_1 : decode cX5_init 1 = .ok (.invokespecial 1, 3) := by decide +kernel
theorem dX5_init_4 : decode cX5_init 4 = .ok (.aload_n 0, 1) := by decide +kernel
theorem dX5_init_5 : decode cX5_init 5 = .ok (.new 7, 3) := by decide +kernel
theorem dX5_init_8 : decode cX5_init 8 = .ok (.dup, 1) := by decide +kernel
theorem dX5_init_9 : decode cX5_init 9 = .ok (.invokespecial 9, 3) := by decide +kernel
theorem dX5_init_12 : decode cX5_init 12 = .ok (.putfield 10, 3) := by decide +kernel
theorem dX5_init_15 : decode cX5_init 15 = .ok (.aload_n 0, 1) := by decide +kernel
theorem dX5_init_16 : decode cX5_init 16 = .ok (.new 7, 3) := by decide +kernel
theorem dX5_init_19 : decode cX5_init 19 = .ok (.dup, 1) := by decide +kernel
theorem dX5_init_20 : decode cX5_init 20 = .ok (.invokespecial 9, 3) := by decide +kernel
theorem dX5_init_23 : decode cX5_init 23 = .ok (.putfield 16, 3) := by decide +kernel
theorem dX5_init_26 : decode cX5_init 26 = .ok (.aload_n 0, 1) := by decide +kernel
theorem dX5_init_27 : decode cX5_init 27 = .ok (.iconst 2, 1) := by decide +kernel
theorem dX5_init_28 : decode cX5_init 28 = .ok (.anewarray 7, 3) := by decide +kernel
theorem dX5_init_31 : decode cX5_init 31 = .ok (.dup, 1) := by decide +kernel
theorem dX5_init_32 : decode cX5_init 32 = .ok (.iconst 0, 1) := by decide +kernel
theorem dX5_init_33 : decode cX5_init 33 = .ok (.new 7, 3) := by decide +kernel
theorem dX5_init_36 : decode cX5_init 36 = .ok (.dup, 1) := by decide +kernel
theorem dX5_init_37 : decode cX5_init 37 = .ok (.invokespecial 9, 3) := by decide +kernel
theorem dX5_init_40 : decode cX5_init 40 = .ok (.aastore, 1) := by decide +kernel
theorem dX5_init_41 : decode cX5_init 41 = .ok (.dup, 1) := by decide +kernel
theorem dX5_init_42 : decode cX5_init 42 = .ok (.iconst 1, 1) := by decide +kernel
theorem dX5_init_43 : decode cX5_init 43 = .ok (.new 7, 3) := by decide +kernel
theorem dX5_init_46 : decode cX5_init 46 = .ok (.dup, 1) := by decide +kernel
theorem dX5_init_47 : decode cX5_init 47 = .ok (.invokespecial 9, 3) := by decide +kernel
theorem dX5_init_50 : decode cX5_init 50 = .ok (.aastore, 1) := by decide +kernel
theorem dX5_init_51 : decode cX5_init 51 = .ok (.putfield 19, 3) := by decide +kernel
theorem dX5_init_54 : decode cX5_init 54 = .ok (.aload_n 0, 1) := by decide +kernel
theorem dX5_init_55 : decode cX5_init 55 = .ok (.iconst 2, 1) := by decide +kernel
theorem dX5_init_56 : decode cX5_init 56 = .ok (.newarray .boolean, 2) := by decide +kernel
theorem dX5_init_58 : decode cX5_init 58 = .ok (.putfield 23, 3) := by decide +kernel
theorem dX5_init_61 : decode cX5_init 61 = .ok (.aload_n 0, 1) := by decide +kernel
theorem dX5_init_62 : decode cX5_init 62 = .ok (.new 27, 3) := by decide +kernel
theorem dX5_init_65 : decode cX5_init 65 = .ok (.dup, 1) := by decide +kernel
theorem dX5_init_66 : decode cX5_init 66 = .ok (.invokespecial 29, 3) := by decide +kernel
theorem dX5_init_69 : decode cX5_init 69 = .ok (.putfield 30, 3) := by decide +kernel
theorem dX5_init_72 : decode cX5_init 72 = .ok (.aload_n 0, 1) := by decide +kernel
theorem dX5_init_73 : decode cX5_init 73 = .ok (.new 34, 3) := by decide +kernel
theorem dX5_init_76 : decode cX5_init 76 = .ok (.dup, 1) := by decide +kernel
theorem dX5_init_77 : decode cX5_init 77 = .ok (.invokespecial 36, 3) := by decide +kernel
theorem dX5_init_80 : decode cX5_init 80 = .ok (.putfield 37, 3) := by decide +kernel
theorem dX5_init_83 : decode cX5_init 83 = .ok (.return_, 1) := by decide +kernel
theorem dX5_set_0 : decode cX5_set 0 = .ok (.iload_n 1, 1) := by decide +kernel
theorem dX5_set_1 : decode cX5_set 1 = .ok (.iconst 0, 1) := by decide +kernel
theorem dX5_set_2 : decode cX5_set 2 = .ok (.iconst 2, 1) := by decide +kernel
theorem dX5_set_3 : decode cX5_set 3 = .ok (.invokestatic 41, 3) := by decide +kernel
theorem dX5_set_6 : decode cX5_set 6 = .ok (.ifCond .eq 16, 3) := by decide +kernel
theorem dX5_set_9 : decode cX5_set 9 = .ok (.iload_n 2, 1) := by decide +kernel
theorem dX5_set_10 : decode cX5_set 10 = .ok (.iconst 1, 1) := by decide +kernel
theorem dX5_set_11 : decode cX5_set 11 = .ok (.getstatic 45, 3) := by decide +kernel
theorem dX5_set_14 : decode cX5_set 14 = .ok (.iload_n 1, 1) := by decide +kernel
theorem dX5_set_15 : decode cX5_set 15 = .ok (.iaload, 1) := by decide +kernel
theorem dX5_set_16 : decode cX5_set 16 = .ok (.invokestatic 41, 3) := by decide +kernel
theorem dX5_set_19 : decode cX5_set 19 = .ok (.ifCond .ne 6, 3) := by decide +kernel
theorem dX5_set_22 : decode cX5_set 22 = .ok (.bipush (-2), 2) := by decide +kernel
theorem dX5_set_24 : decode cX5_set 24 = .ok (.ireturn, 1) := by decide +kernel
theorem dX5_set_25 : decode cX5_set 25 = .ok (.aload_n 0, 1) := by decide +kernel
theorem dX5_set_26 : decode cX5_set 26 = .ok (.getfield 30, 3) := by decide +kernel
theorem dX5_set_29 : decode cX5_set 29 = .ok (.aload_n 0, 1) := by decide +kernel
theorem dX5_set_30 : decode cX5_set 30 = .ok (.getfield 10, 3) := by decide +kernel
theorem dX5_set_33 : decode cX5_set 33 = .ok (.invokevirtual 49, 3) := by decide +kernel
theorem dX5_set_36 : decode cX5_set 36 = .ok (.aload_n 0, 1) := by decide +kernel
theorem dX5_set_37 : decode cX5_set 37 = .ok (.getfield 10, 3) := by decide +kernel
theorem dX5_set_40 : decode cX5_set 40 = .ok (.getfield 53, 3) := by decide +kernel
theorem dX5_set_43 : decode cX5_set 43 = .ok (.iload_n 1, 1) := by decide +kernel
theorem dX5_set_44 : decode cX5_set 44 = .ok (.iaload, 1) := by decide +kernel
theorem dX5_set_45 : decode cX5_set 45 = .ok (.istore_n 3, 1) := by decide +kernel
theorem dX5_set_46 : decode cX5_set 46 = .ok (.aload_n 0, 1) := by decide +kernel
theorem dX5_set_47 : decode cX5_set 47 = .ok (.getfield 10, 3) := by decide +kernel
theorem dX5_set_50 : decode cX5_set 50 = .ok (.getfield 53, 3) := by decide +kernel
theorem dX5_set_53 : decode cX5_set 53 = .ok (.iload_n 1, 1) := by decide +kernel
theorem dX5_set_54 : decode cX5_set 54 = .ok (.iload_n 2, 1) := by decide +kernel
theorem dX5_set_55 : decode cX5_set 55 = .ok (.iastore, 1) := by decide +kernel
theorem dX5_set_56 : decode cX5_set 56 = .ok (.iload_n 3, 1) := by decide +kernel
theorem dX5_set_57 : decode cX5_set 57 = .ok (.ireturn, 1) := by decide +kernel
theorem dX5_begin_0 : decode cX5_begin 0 = .ok (.iload_n 1, 1) := by decide +kernel
theorem dX5_begin_1 : decode cX5_begin 1 = .ok (.invokestatic 56, 3) := by decide +kernel
theorem dX5_begin_4 : decode cX5_begin 4 = .ok (.ifCond .ne 5, 3) := by decide +kernel
theorem dX5_begin_7 : decode cX5_begin 7 = .ok (.iconst (-1), 1) := by decide +kernel
theorem dX5_begin_8 : decode cX5_begin 8 = .ok (.ireturn, 1) := by decide +kernel
theorem dX5_begin_9 : decode cX5_begin 9 = .ok (.iload_n 2, 1) := by decide +kernel
theorem dX5_begin_10 : decode cX5_begin 10 = .ok (.iconst 0, 1) := by decide +kernel
theorem dX5_begin_11 : decode cX5_begin 11 = .ok (.bipush 99, 2) := by decide +kernel
theorem dX5_begin_13 : decode cX5_begin 13 = .ok (.invokestatic 41, 3) := by decide +kernel
theorem dX5_begin_16 : decode cX5_begin 16 = .ok (.ifCond .eq 22, 3) := by decide +kernel
theorem dX5_begin_19 : decode cX5_begin 19 = .ok (.iload_n 3, 1) := by decide +kernel
theorem dX5_begin_20 : decode cX5_begin 20 = .ok (.invokestatic 60, 3) := by decide +kernel
theorem dX5_begin_23 : decode cX5_begin 23 = .ok (.ifCond .eq 15, 3) := by decide +kernel
theorem dX5_begin_26 : decode cX5_begin 26 = .ok (.iload 4, 2) := by decide +kernel
theorem dX5_begin_28 : decode cX5_begin 28 = .ok (.iconst 0, 1) := by decide +kernel
theorem dX5_begin_29 : decode cX5_begin 29 = .ok (.sipush 250, 3) := by decide +kernel
theorem dX5_begin_32 : decode cX5_begin 32 = .ok (.invokestatic 41, 3) := by decide +kernel
theorem dX5_begin_35 : decode cX5_begin 35 = .ok (.ifCond .ne 6, 3) := by decide +kernel
theorem dX5_begin_38 : decode cX5_begin 38 = .ok (.bipush (-2), 2) := by decide +kernel
theorem dX5_begin_40 : decode cX5_begin 40 = .ok (.ireturn, 1) := by decide +kernel
theorem dX5_begin_41 : decode cX5_begin 41 = .ok (.iload_n 3, 1) := by decide +kernel
theorem dX5_begin_42 : decode cX5_begin 42 = .ok (.invokestatic 63, 3) := by decide +kernel
theorem dX5_begin_45 : decode cX5_begin 45 = .ok (.istore 5, 2) := by decide +kernel
theorem dX5_begin_47 : decode cX5_begin 47 = .ok (.aload_n 0, 1) := by decide +kernel
theorem dX5_begin_48 : decode cX5_begin 48 = .ok (.getfield 10, 3) := by decide +kernel
theorem dX5_begin_51 : decode cX5_begin 51 = .ok (.getfield 67, 3) := by decide +kernel
theorem dX5_begin_54 : decode cX5_begin 54 = .ok (.iload_n 1, 1) := by decide +kernel
theorem dX5_begin_55 : decode cX5_begin 55 = .ok (.if_icmp .eq 27, 3) := by decide +kernel
theorem dX5_begin_58 : decode cX5_begin 58 = .ok (.iload_n 2, 1) := by decide +kernel
theorem dX5_begin_59 : decode cX5_begin 59 = .ok (.aload_n 0, 1) := by decide +kernel
theorem dX5_begin_60 : decode cX5_begin 60 = .ok (.getfield 10, 3) := by decide +kernel
theorem dX5_begin_63 : decode cX5_begin 63 = .ok (.getfield 71, 3) := by decide +kernel
theorem dX5_begin_66 : decode cX5_begin 66 = .ok (.if_icmp .lt 16, 3) := by decide +kernel
theorem dX5_begin_69 : decode cX5_begin 69 = .ok (.aload_n 0, 1) := by decide +kernel
theorem dX5_begin_70 : decode cX5_begin 70 = .ok (.getfield 10, 3) := by decide +kernel
theorem dX5_begin_73 : decode cX5_begin 73 = .ok (.iload_n 1, 1) := by decide +kernel
theorem dX5_begin_74 : decode cX5_begin 74 = .ok (.iload 5, 2) := by decide +kernel
theorem dX5_begin_76 : decode cX5_begin 76 = .ok (.invokevirtual 74, 3) := by decide +kernel
theorem dX5_begin_79 : decode cX5_begin 79 = .ok (.ifCond .ne 6, 3) := by decide +kernel
theorem dX5_begin_82 : decode cX5_begin 82 = .ok (.bipush (-5), 2) := by decide +kernel
theorem dX5_begin_84 : decode cX5_begin 84 = .ok (.ireturn, 1) := by decide +kernel
theorem dX5_begin_85 : decode cX5_begin 85 = .ok (.aload_n 0, 1) := by decide +kernel
theorem dX5_begin_86 : decode cX5_begin 86 = .ok (.getfield 30, 3) := by decide +kernel
theorem dX5_begin_89 : decode cX5_begin 89 = .ok (.aload_n 0, 1) := by decide +kernel
theorem dX5_begin_90 : decode cX5_begin 90 = .ok (.getfield 10, 3) := by decide +kernel
theorem dX5_begin_93 : decode cX5_begin 93 = .ok (.invokevirtual 49, 3) := by decide +kernel
theorem dX5_begin_96 : decode cX5_begin 96 = .ok (.aload_n 0, 1) := by decide +kernel
theorem dX5_begin_97 : decode cX5_begin 97 = .ok (.getfield 10, 3) := by decide +kernel
theorem dX5_begin_100 : decode cX5_begin 100 = .ok (.iload_n 1, 1) := by decide +kernel
theorem dX5_begin_101 : decode cX5_begin 101 = .ok (.invokevirtual 78, 3) := by decide +kernel
theorem dX5_begin_104 : decode cX5_begin 104 = .ok (.astore 6, 2) := by decide +kernel
theorem dX5_begin_106 : decode cX5_begin 106 = .ok (.aload 6, 2) := by decide +kernel
theorem dX5_begin_108 : decode cX5_begin 108 = .ok (.iload 5, 2) := by decide +kernel
theorem dX5_begin_110 : decode cX5_begin 110 = .ok (.invokevirtual 82, 3) := by decide +kernel
theorem dX5_begin_113 : decode cX5_begin 113 = .ok (.aload 6, 2) := by decide +kernel
theorem dX5_begin_115 : decode cX5_begin 115 = .ok (.iload_n 2, 1) := by decide +kernel
theorem dX5_begin_116 : decode cX5_begin 116 = .ok (.iload_n 3, 1) := by decide +kernel
theorem dX5_begin_117 : decode cX5_begin 117 = .ok (.iload 4, 2) := by decide +kernel
theorem dX5_begin_119 : decode cX5_begin 119 = .ok (.invokevirtual 88, 3) := by decide +kernel
theorem dX5_begin_122 : decode cX5_begin 122 = .ok (.aload 6, 2) := by decide +kernel
theorem dX5_begin_124 : decode cX5_begin 124 = .ok (.iload 5, 2) := by decide +kernel
theorem dX5_begin_126 : decode cX5_begin 126 = .ok (.invokevirtual 92, 3) := by decide +kernel
theorem dX5_begin_129 : decode cX5_begin 129 = .ok (.ireturn, 1) := by decide +kernel
theorem dX5_fill_0 : decode cX5_fill 0 = .ok (.iload_n 1, 1) := by decide +kernel
theorem dX5_fill_1 : decode cX5_fill 1 = .ok (.invokestatic 56, 3) := by decide +kernel
theorem dX5_fill_4 : decode cX5_fill 4 = .ok (.ifCond .ne 5, 3) := by decide +kernel
theorem dX5_fill_7 : decode cX5_fill 7 = .ok (.iconst (-1), 1) := by decide +kernel
theorem dX5_fill_8 : decode cX5_fill 8 = .ok (.ireturn, 1) := by decide +kernel
theorem dX5_fill_9 : decode cX5_fill 9 = .ok (.iload_n 2, 1) := by decide +kernel
theorem dX5_fill_10 : decode cX5_fill 10 = .ok (.iconst 0, 1) := by decide +kernel
theorem dX5_fill_11 : decode cX5_fill 11 = .ok (.sipush 255, 3) := by decide +kernel
theorem dX5_fill_14 : decode cX5_fill 14 = .ok (.invokestatic 41, 3) := by decide +kernel
theorem dX5_fill_17 : decode cX5_fill 17 = .ok (.ifCond .ne 6, 3) := by decide +kernel
theorem dX5_fill_20 : decode cX5_fill 20 = .ok (.bipush (-2), 2) := by decide +kernel
theorem dX5_fill_22 : decode cX5_fill 22 = .ok (.ireturn, 1) := by decide +kernel
theorem dX5_fill_23 : decode cX5_fill 23 = .ok (.aload_n 0, 1) := by decide +kernel
theorem dX5_fill_24 : decode cX5_fill 24 = .ok (.getfield 10, 3) := by decide +kernel
theorem dX5_fill_27 : decode cX5_fill 27 = .ok (.iload_n 1, 1) := by decide +kernel
theorem dX5_fill_28 : decode cX5_fill 28 = .ok (.invokevirtual 78, 3) := by decide +kernel
theorem dX5_fill_31 : decode cX5_fill 31 = .ok (.astore_n 3, 1) := by decide +kernel
theorem dX5_fill_32 : decode cX5_fill 32 = .ok (.aload_n 3, 1) := by decide +kernel
theorem dX5_fill_33 : decode cX5_fill 33 = .ok (.getfield 95, 3) := by decide +kernel
theorem dX5_fill_36 : decode cX5_fill 36 = .ok (.iconst 1, 1) := by decide +kernel
theorem dX5_fill_37 : decode cX5_fill 37 = .ok (.if_icmp .ne 10, 3) := by decide +kernel
theorem dX5_fill_40 : decode cX5_fill 40 = .ok (.aload_n 3, 1) := by decide +kernel
theorem dX5_fill_41 : decode cX5_fill 41 = .ok (.invokevirtual 98, 3) := by decide +kernel
theorem dX5_fill_44 : decode cX5_fill 44 = .ok (.ifCond .ne 6, 3) := by decide +kernel
theorem dX5_fill_47 : decode cX5_fill 47 = .ok (.bipush (-5), 2) := by decide +kernel
theorem dX5_fill_49 : decode cX5_fill 49 = .ok (.ireturn, 1) := by decide +kernel
theorem dX5_fill_50 : decode cX5_fill 50 = .ok (.aload_n 0, 1) := by decide +kernel
theorem dX5_fill_51 : decode cX5_fill 51 = .ok (.getfield 30, 3) := by decide +kernel
theorem dX5_fill_54 : decode cX5_fill 54 = .ok (.aload_n 0, 1) := by decide +kernel
theorem dX5_fill_55 : decode cX5_fill 55 = .ok (.getfield 10, 3) := by decide +kernel
theorem dX5_fill_58 : decode cX5_fill 58 = .ok (.invokevirtual 49, 3) := by decide +kernel
theorem dX5_fill_61 : decode cX5_fill 61 = .ok (.aload_n 3, 1) := by decide +kernel
theorem dX5_fill_62 : decode cX5_fill 62 = .ok (.iload_n 2, 1) := by decide +kernel
theorem dX5_fill_63 : decode cX5_fill 63 = .ok (.invokevirtual 102, 3) := by decide +kernel
theorem dX5_fill_66 : decode cX5_fill 66 = .ok (.aload_n 3, 1) := by decide +kernel
theorem dX5_fill_67 : decode cX5_fill 67 = .ok (.getfield 105, 3) := by decide +kernel
theorem dX5_fill_70 : decode cX5_fill 70 = .ok (.ireturn, 1) := by decide +kernel
theorem dX5_fillAll_0 : decode cX5_fillAll 0 = .ok (.iload_n 1, 1) := by decide +kernel
theorem dX5_fillAll_1 : decode cX5_fillAll 1 = .ok (.invokestatic 56, 3) := by decide +kernel
theorem dX5_fillAll_4 : decode cX5_fillAll 4 = .ok (.ifCond .ne 5, 3) := by decide +kernel
theorem dX5_fillAll_7 : decode cX5_fillAll 7 = .ok (.iconst (-1), 1) := by decide +kernel
theorem dX5_fillAll_8 : decode cX5_fillAll 8 = .ok (.ireturn, 1) := by decide +kernel
theorem dX5_fillAll_9 : decode cX5_fillAll 9 = .ok (.aload_n 0, 1) := by decide +kernel
theorem dX5_fillAll_10 : decode cX5_fillAll 10 = .ok (.getfield 37, 3) := by decide +kernel
theorem dX5_fillAll_13 : decode cX5_fillAll 13 = .ok (.invokevirtual 108, 3) := by decide +kernel
theorem dX5_fillAll_16 : decode cX5_fillAll 16 = .ok (.bipush (-6), 2) := by decide +kernel
theorem dX5_fillAll_18 : decode cX5_fillAll 18 = .ok (.if_icmp .eq 6, 3) := by decide +kernel
theorem dX5_fillAll_21 : decode cX5_fillAll 21 = .ok (.bipush (-3), 2) := by decide +kernel
theorem dX5_fillAll_23 : decode cX5_fillAll 23 = .ok (.ireturn, 1) := by decide +kernel
theorem dX5_fillAll_24 : decode cX5_fillAll 24 = .ok (.aload_n 0, 1) := by decide +kernel
theorem dX5_fillAll_25 : decode cX5_fillAll 25 = .ok (.getfield 10, 3) := by decide +kernel
theorem dX5_fillAll_28 : decode cX5_fillAll 28 = .ok (.iload_n 1, 1) := by decide +kernel
theorem dX5_fillAll_29 : decode cX5_fillAll 29 = .ok (.invokevirtual 78, 3) := by decide +kernel
theorem dX5_fillAll_32 : decode cX5_fillAll 32 = .ok (.astore_n 2, 1) := by decide +kernel
theorem dX5_fillAll_33 : decode cX5_fillAll 33 = .ok (.aload_n 2, 1) := by decide +kernel
theorem dX5_fillAll_34 : decode cX5_fillAll 34 = .ok (.getfield 95, 3) := by decide +kernel
theorem dX5_fillAll_37 : decode cX5_fillAll 37 = .ok (.iconst 1, 1) := by decide +kernel
theorem dX5_fillAll_38 : decode cX5_fillAll 38 = .ok (.if_icmp .eq 6, 3) := by decide +kernel
theorem dX5_fillAll_41 : decode cX5_fillAll 41 = .ok (.bipush (-5), 2) := by decide +kernel
theorem dX5_fillAll_43 : decode cX5_fillAll 43 = .ok (.ireturn, 1) := by decide +kernel
theorem dX5_fillAll_44 : decode cX5_fillAll 44 = .ok (.aload_n 0, 1) := by decide +kernel
theorem dX5_fillAll_45 : decode cX5_fillAll 45 = .ok (.getfield 37, 3) := by decide +kernel
theorem dX5_fillAll_48 : decode cX5_fillAll 48 = .ok (.invokevirtual 111, 3) := by decide +kernel
theorem dX5_fillAll_51 : decode cX5_fillAll 51 = .ok (.istore_n 3, 1) := by decide +kernel
theorem dX5_fillAll_52 : decode cX5_fillAll 52 = .ok (.iload_n 3, 1) := by decide +kernel
theorem dX5_fillAll_53 : decode cX5_fillAll 53 = .ok (.aload_n 2, 1) := by decide +kernel
theorem dX5_fillAll_54 : decode cX5_fillAll 54 = .ok (.invokevirtual 98, 3) := by decide +kernel
theorem dX5_fillAll_57 : decode cX5_fillAll 57 = .ok (.if_icmp .le 6, 3) := by decide +kernel
theorem dX5_fillAll_60 : decode cX5_fillAll 60 = .ok (.bipush (-4), 2) := by decide +kernel
theorem dX5_fillAll_62 : decode cX5_fillAll 62 = .ok (.ireturn, 1) := by decide +kernel
theorem dX5_fillAll_63 : decode cX5_fillAll 63 = .ok (.aload_n 0, 1) := by decide +kernel
theorem dX5_fillAll_64 : decode cX5_fillAll 64 = .ok (.getfield 30, 3) := by decide +kernel
theorem dX5_fillAll_67 : decode cX5_fillAll 67 = .ok (.aload_n 0, 1) := by decide +kernel
theorem dX5_fillAll_68 : decode cX5_fillAll 68 = .ok (.getfield 10, 3) := by decide +kernel
theorem dX5_fillAll_71 : decode cX5_fillAll 71 = .ok (.invokevirtual 49, 3) := by decide +kernel
theorem dX5_fillAll_74 : decode cX5_fillAll 74 = .ok (.iconst 0, 1) := by decide +kernel
theorem dX5_fillAll_75 : decode cX5_fillAll 75 = .ok (.istore 4, 2) := by decide +kernel
theorem dX5_fillAll_77 : decode cX5_fillAll 77 = .ok (.iload 4, 2) := by decide +kernel
theorem dX5_fillAll_79 : decode cX5_fillAll 79 = .ok (.iload_n 3, 1) := by decide +kernel
theorem dX5_fillAll_80 : decode cX5_fillAll 80 = .ok (.if_icmp .ge 22, 3) := by decide +kernel
theorem dX5_fillAll_83 : decode cX5_fillAll 83 = .ok (.aload_n 2, 1) := by decide +kernel
theorem dX5_fillAll_84 : decode cX5_fillAll 84 = .ok (.aload_n 0, 1) := by decide +kernel
theorem dX5_fillAll_85 : decode cX5_fillAll 85 = .ok (.getfield 37, 3) := by decide +kernel
theorem dX5_fillAll_88 : decode cX5_fillAll 88 = .ok (.iload 4, 2) := by decide +kernel
theorem dX5_fillAll_90 : decode cX5_fillAll 90 = .ok (.invokevirtual 114, 3) := by decide +kernel
theorem dX5_fillAll_93 : decode cX5_fillAll 93 = .ok (.invokevirtual 102, 3) := by decide +kernel
theorem dX5_fillAll_96 : decode cX5_fillAll 96 = .ok (.iinc 4 1, 3) := by decide +kernel
theorem dX5_fillAll_99 : decode cX5_fillAll 99 = .ok (.goto (-22), 3) := by decide +kernel
theorem dX5_fillAll_102 : decode cX5_fillAll 102 = .ok (.aload_n 0, 1) := by decide +kernel
theorem dX5_fillAll_103 : decode cX5_fillAll 103 = .ok (.getfield 37, 3) := by decide +kernel
theorem dX5_fillAll_106 : decode cX5_fillAll 106 = .ok (.invokevirtual 117, 3) := by decide +kernel
theorem dX5_fillAll_109 : decode cX5_fillAll 109 = .ok (.aload_n 2, 1) := by decide +kernel
theorem dX5_fillAll_110 : decode cX5_fillAll 110 = .ok (.getfield 105, 3) := by decide +kernel
theorem dX5_fillAll_113 : decode cX5_fillAll 113 = .ok (.ireturn, 1) := by decide +kernel
theorem dX5_finish_0 : decode cX5_finish 0 = .ok (.iload_n 1, 1) := by decide +kernel
theorem dX5_finish_1 : decode cX5_finish 1 = .ok (.invokestatic 56, 3) := by decide +kernel
theorem dX5_finish_4 : decode cX5_finish 4 = .ok (.ifCond .ne 5, 3) := by decide +kernel
theorem dX5_finish_7 : decode cX5_finish 7 = .ok (.iconst (-1), 1) := by decide +kernel
theorem dX5_finish_8 : decode cX5_finish 8 = .ok (.ireturn, 1) := by decide +kernel
theorem dX5_finish_9 : decode cX5_finish 9 = .ok (.aload_n 0, 1) := by decide +kernel
theorem dX5_finish_10 : decode cX5_finish 10 = .ok (.getfield 10, 3) := by decide +kernel
theorem dX5_finish_13 : decode cX5_finish 13 = .ok (.iload_n 1, 1) := by decide +kernel
theorem dX5_finish_14 : decode cX5_finish 14 = .ok (.invokevirtual 78, 3) := by decide +kernel
theorem dX5_finish_17 : decode cX5_finish 17 = .ok (.astore_n 2, 1) := by decide +kernel
theorem dX5_finish_18 : decode cX5_finish 18 = .ok (.aload_n 2, 1) := by decide +kernel
theorem dX5_finish_19 : decode cX5_finish 19 = .ok (.getfield 95, 3) := by decide +kernel
theorem dX5_finish_22 : decode cX5_finish 22 = .ok (.iconst 1, 1) := by decide +kernel
theorem dX5_finish_23 : decode cX5_finish 23 = .ok (.if_icmp .ne 10, 3) := by decide +kernel
theorem dX5_finish_26 : decode cX5_finish 26 = .ok (.aload_n 2, 1) := by decide +kernel
theorem dX5_finish_27 : decode cX5_finish 27 = .ok (.invokevirtual 98, 3) := by decide +kernel
theorem dX5_finish_30 : decode cX5_finish 30 = .ok (.ifCond .le 6, 3) := by decide +kernel
theorem dX5_finish_33 : decode cX5_finish 33 = .ok (.bipush (-5), 2) := by decide +kernel
theorem dX5_finish_35 : decode cX5_finish 35 = .ok (.ireturn, 1) := by decide +kernel
theorem dX5_finish_36 : decode cX5_finish 36 = .ok (.aload_n 0, 1) := by decide +kernel
theorem dX5_finish_37 : decode cX5_finish 37 = .ok (.getfield 30, 3) := by decide +kernel
theorem dX5_finish_40 : decode cX5_finish 40 = .ok (.aload_n 0, 1) := by decide +kernel
theorem dX5_finish_41 : decode cX5_finish 41 = .ok (.getfield 10, 3) := by decide +kernel
theorem dX5_finish_44 : decode cX5_finish 44 = .ok (.invokevirtual 49, 3) := by decide +kernel
theorem dX5_finish_47 : decode cX5_finish 47 = .ok (.aload_n 2, 1) := by decide +kernel
theorem dX5_finish_48 : decode cX5_finish 48 = .ok (.invokevirtual 120, 3) := by decide +kernel
theorem dX5_finish_51 : decode cX5_finish 51 = .ok (.ifCond .ne 10, 3) := by decide +kernel
theorem dX5_finish_54 : decode cX5_finish 54 = .ok (.aload_n 2, 1) := by decide +kernel
theorem dX5_finish_55 : decode cX5_finish 55 = .ok (.iconst 4, 1) := by decide +kernel
theorem dX5_finish_56 : decode cX5_finish 56 = .ok (.putfield 95, 3) := by decide +kernel
theorem dX5_finish_59 : decode cX5_finish 59 = .ok (.iconst 0, 1) := by decide +kernel
theorem dX5_finish_60 : decode cX5_finish 60 = .ok (.ireturn, 1) := by decide +kernel
theorem dX5_finish_61 : decode cX5_finish 61 = .ok (.aload_n 2, 1) := by decide +kernel
theorem dX5_finish_62 : decode cX5_finish 62 = .ok (.iconst 2, 1) := by decide +kernel
theorem dX5_finish_63 : decode cX5_finish 63 = .ok (.putfield 95, 3) := by decide +kernel
theorem dX5_finish_66 : decode cX5_finish 66 = .ok (.aload_n 2, 1) := by decide +kernel
theorem dX5_finish_67 : decode cX5_finish 67 = .ok (.aload_n 0, 1) := by decide +kernel
theorem dX5_finish_68 : decode cX5_finish 68 = .ok (.getfield 10, 3) := by decide +kernel
theorem dX5_finish_71 : decode cX5_finish 71 = .ok (.getfield 53, 3) := by decide +kernel
theorem dX5_finish_74 : decode cX5_finish 74 = .ok (.iconst 0, 1) := by decide +kernel
theorem dX5_finish_75 : decode cX5_finish 75 = .ok (.iaload, 1) := by decide +kernel
theorem dX5_finish_76 : decode cX5_finish 76 = .ok (.putfield 124, 3) := by decide +kernel
theorem dX5_finish_79 : decode cX5_finish 79 = .ok (.iconst 1, 1) := by decide +kernel
theorem dX5_finish_80 : decode cX5_finish 80 = .ok (.ireturn, 1) := by decide +kernel
theorem dX5_damage_0 : decode cX5_damage 0 = .ok (.iload_n 1, 1) := by decide +kernel
theorem dX5_damage_1 : decode cX5_damage 1 = .ok (.invokestatic 56, 3) := by decide +kernel
theorem dX5_damage_4 : decode cX5_damage 4 = .ok (.ifCond .eq 13, 3) := by decide +kernel
theorem dX5_damage_7 : decode cX5_damage 7 = .ok (.iload_n 2, 1) := by decide +kernel
theorem dX5_damage_8 : decode cX5_damage 8 = .ok (.iconst 0, 1) := by decide +kernel
theorem dX5_damage_9 : decode cX5_damage 9 = .ok (.bipush 31, 2) := by decide +kernel
theorem dX5_damage_11 : decode cX5_damage 11 = .ok (.invokestatic 41, 3) := by decide +kernel
theorem dX5_damage_14 : decode cX5_damage 14 = .ok (.ifCond .ne 5, 3) := by decide +kernel
theorem dX5_damage_17 : decode cX5_damage 17 = .ok (.iconst (-1), 1) := by decide +kernel
theorem dX5_damage_18 : decode cX5_damage 18 = .ok (.ireturn, 1) := by decide +kernel
theorem dX5_damage_19 : decode cX5_damage 19 = .ok (.iload_n 3, 1) := by decide +kernel
theorem dX5_damage_20 : decode cX5_damage 20 = .ok (.iconst 1, 1) := by decide +kernel
theorem dX5_damage_21 : decode cX5_damage 21 = .ok (.sipush 255, 3) := by decide +kernel
theorem dX5_damage_24 : decode cX5_damage 24 = .ok (.invokestatic 41, 3) := by decide +kernel
theorem dX5_damage_27 : decode cX5_damage 27 = .ok (.ifCond .ne 6, 3) := by decide +kernel
theorem dX5_damage_30 : decode cX5_damage 30 = .ok (.bipush (-2), 2) := by decide +kernel
theorem dX5_damage_32 : decode cX5_damage 32 = .ok (.ireturn, 1) := by decide +kernel
theorem dX5_damage_33 : decode cX5_damage 33 = .ok (.aload_n 0, 1) := by decide +kernel
theorem dX5_damage_34 : decode cX5_damage 34 = .ok (.getfield 30, 3) := by decide +kernel
theorem dX5_damage_37 : decode cX5_damage 37 = .ok (.aload_n 0, 1) := by decide +kernel
theorem dX5_damage_38 : decode cX5_damage 38 = .ok (.getfield 10, 3) := by decide +kernel
theorem dX5_damage_41 : decode cX5_damage 41 = .ok (.invokevirtual 49, 3) := by decide +kernel
theorem dX5_damage_44 : decode cX5_damage 44 = .ok (.aload_n 0, 1) := by decide +kernel
theorem dX5_damage_45 : decode cX5_damage 45 = .ok (.getfield 10, 3) := by decide +kernel
theorem dX5_damage_48 : decode cX5_damage 48 = .ok (.iload_n 1, 1) := by decide +kernel
theorem dX5_damage_49 : decode cX5_damage 49 = .ok (.invokevirtual 78, 3) := by decide +kernel
theorem dX5_damage_52 : decode cX5_damage 52 = .ok (.astore 4, 2) := by decide +kernel
theorem dX5_damage_54 : decode cX5_damage 54 = .ok (.aload 4, 2) := by decide +kernel
theorem dX5_damage_56 : decode cX5_damage 56 = .ok (.getfield 127, 3) := by decide +kernel
theorem dX5_damage_59 : decode cX5_damage 59 = .ok (.iload_n 2, 1) := by decide +kernel
theorem dX5_damage_60 : decode cX5_damage 60 = .ok (.dup2, 1) := by decide +kernel
theorem dX5_damage_61 : decode cX5_damage 61 = .ok (.iaload, 1) := by decide +kernel
theorem dX5_damage_62 : decode cX5_damage 62 = .ok (.iload_n 3, 1) := by decide +kernel
theorem dX5_damage_63 : decode cX5_damage 63 = .ok (.ixor, 1) := by decide +kernel
theorem dX5_damage_64 : decode cX5_damage 64 = .ok (.iastore, 1) := by decide +kernel
theorem dX5_damage_65 : decode cX5_damage 65 = .ok (.aload 4, 2) := by decide +kernel
theorem dX5_damage_67 : decode cX5_damage 67 = .ok (.getfield 127, 3) := by decide +kernel
theorem dX5_damage_70 : decode cX5_damage 70 = .ok (.iload_n 2, 1) := by decide +kernel
theorem dX5_damage_71 : decode cX5_damage 71 = .ok (.iaload, 1) := by decide +kernel
theorem dX5_damage_72 : decode cX5_damage 72 = .ok (.ireturn, 1) := by decide +kernel
theorem dX5_repair_0 : decode cX5_repair 0 = .ok (.iload_n 1, 1) := by decide +kernel
theorem dX5_repair_1 : decode cX5_repair 1 = .ok (.invokestatic 56, 3) := by decide +kernel
theorem dX5_repair_4 : decode cX5_repair 4 = .ok (.ifCond .ne 5, 3) := by decide +kernel
theorem dX5_repair_7 : decode cX5_repair 7 = .ok (.iconst (-1), 1) := by decide +kernel
theorem dX5_repair_8 : decode cX5_repair 8 = .ok (.ireturn, 1) := by decide +kernel
theorem dX5_repair_9 : decode cX5_repair 9 = .ok (.aload_n 0, 1) := by decide +kernel
theorem dX5_repair_10 : decode cX5_repair 10 = .ok (.getfield 10, 3) := by decide +kernel
theorem dX5_repair_13 : decode cX5_repair 13 = .ok (.getfield 67, 3) := by decide +kernel
theorem dX5_repair_16 : decode cX5_repair 16 = .ok (.iconst 2, 1) := by decide +kernel
theorem dX5_repair_17 : decode cX5_repair 17 = .ok (.if_icmp .ne 25, 3) := by decide +kernel
theorem dX5_repair_20 : decode cX5_repair 20 = .ok (.aload_n 0, 1) := by decide +kernel
theorem dX5_repair_21 : decode cX5_repair 21 = .ok (.getfield 10, 3) := by decide +kernel
theorem dX5_repair_24 : decode cX5_repair 24 = .ok (.iload_n 1, 1) := by decide +kernel
theorem dX5_repair_25 : decode cX5_repair 25 = .ok (.iconst 1, 1) := by decide +kernel
theorem dX5_repair_26 : decode cX5_repair 26 = .ok (.invokevirtual 74, 3) := by decide +kernel
theorem dX5_repair_29 : decode cX5_repair 29 = .ok (.ifCond .eq 13, 3) := by decide +kernel
theorem dX5_repair_32 : decode cX5_repair 32 = .ok (.aload_n 0, 1) := by decide +kernel
theorem dX5_repair_33 : decode cX5_repair 33 = .ok (.getfield 10, 3) := by decide +kernel
theorem dX5_repair_36 : decode cX5_repair 36 = .ok (.getfield 71, 3) := by decide +kernel
theorem dX5_repair_39 : decode cX5_repair 39 = .ok (.ifCond .le 6, 3) := by decide +kernel
theorem dX5_repair_42 : decode cX5_repair 42 = .ok (.bipush (-5), 2) := by decide +kernel
theorem dX5_repair_44 : decode cX5_repair 44 = .ok (.ireturn, 1) := by decide +kernel
theorem dX5_repair_45 : decode cX5_repair 45 = .ok (.aload_n 0, 1) := by decide +kernel
theorem dX5_repair_46 : decode cX5_repair 46 = .ok (.getfield 30, 3) := by decide +kernel
theorem dX5_repair_49 : decode cX5_repair 49 = .ok (.aload_n 0, 1) := by decide +kernel
theorem dX5_repair_50 : decode cX5_repair 50 = .ok (.getfield 10, 3) := by decide +kernel
theorem dX5_repair_53 : decode cX5_repair 53 = .ok (.invokevirtual 49, 3) := by decide +kernel
theorem dX5_repair_56 : decode cX5_repair 56 = .ok (.aload_n 0, 1) := by decide +kernel
theorem dX5_repair_57 : decode cX5_repair 57 = .ok (.getfield 10, 3) := by decide +kernel
theorem dX5_repair_60 : decode cX5_repair 60 = .ok (.iload_n 1, 1) := by decide +kernel
theorem dX5_repair_61 : decode cX5_repair 61 = .ok (.invokevirtual 78, 3) := by decide +kernel
theorem dX5_repair_64 : decode cX5_repair 64 = .ok (.astore_n 2, 1) := by decide +kernel
theorem dX5_repair_65 : decode cX5_repair 65 = .ok (.aload_n 2, 1) := by decide +kernel
theorem dX5_repair_66 : decode cX5_repair 66 = .ok (.iconst 1, 1) := by decide +kernel
theorem dX5_repair_67 : decode cX5_repair 67 = .ok (.invokevirtual 82, 3) := by decide +kernel
theorem dX5_repair_70 : decode cX5_repair 70 = .ok (.aload_n 2, 1) := by decide +kernel
theorem dX5_repair_71 : decode cX5_repair 71 = .ok (.invokevirtual 129, 3) := by decide +kernel
theorem dX5_repair_74 : decode cX5_repair 74 = .ok (.aload_n 2, 1) := by decide +kernel
theorem dX5_repair_75 : decode cX5_repair 75 = .ok (.iconst 1, 1) := by decide +kernel
theorem dX5_repair_76 : decode cX5_repair 76 = .ok (.invokevirtual 92, 3) := by decide +kernel
theorem dX5_repair_79 : decode cX5_repair 79 = .ok (.ireturn, 1) := by decide +kernel
theorem dX5_start_0 : decode cX5_start 0 = .ok (.aload_n 0, 1) := by decide +kernel
theorem dX5_start_1 : decode cX5_start 1 = .ok (.getfield 30, 3) := by decide +kernel
theorem dX5_start_4 : decode cX5_start 4 = .ok (.aload_n 0, 1) := by decide +kernel
theorem dX5_start_5 : decode cX5_start 5 = .ok (.getfield 10, 3) := by decide +kernel
theorem dX5_start_8 : decode cX5_start 8 = .ok (.invokevirtual 49, 3) := by decide +kernel
theorem dX5_start_11 : decode cX5_start 11 = .ok (.aload_n 0, 1) := by decide +kernel
theorem dX5_start_12 : decode cX5_start 12 = .ok (.getfield 10, 3) := by decide +kernel
theorem dX5_start_15 : decode cX5_start 15 = .ok (.iload_n 1, 1) := by decide +kernel
theorem dX5_start_16 : decode cX5_start 16 = .ok (.ifCond .eq 7, 3) := by decide +kernel
theorem dX5_start_19 : decode cX5_start 19 = .ok (.iconst 2, 1) := by decide +kernel
theorem dX5_start_20 : decode cX5_start 20 = .ok (.goto 4, 3) := by decide +kernel
theorem dX5_start_23 : decode cX5_start 23 = .ok (.iconst 0, 1) := by decide +kernel
theorem dX5_start_24 : decode cX5_start 24 = .ok (.invokevirtual 132, 3) := by decide +kernel
theorem dX5_start_27 : decode cX5_start 27 = .ok (.aload_n 0, 1) := by decide +kernel
theorem dX5_start_28 : decode cX5_start 28 = .ok (.getfield 10, 3) := by decide +kernel
theorem dX5_start_31 : decode cX5_start 31 = .ok (.getfield 67, 3) := by decide +kernel
theorem dX5_start_34 : decode cX5_start 34 = .ok (.ireturn, 1) := by decide +kernel
theorem dX5_pass_0 : decode cX5_pass 0 = .ok (.iload_n 1, 1) := by decide +kernel
theorem dX5_pass_1 : decode cX5_pass 1 = .ok (.iconst 1, 1) := by decide +kernel
theorem dX5_pass_2 : decode cX5_pass 2 = .ok (.sipush 500, 3) := by decide +kernel
theorem dX5_pass_5 : decode cX5_pass 5 = .ok (.invokestatic 41, 3) := by decide +kernel
theorem dX5_pass_8 : decode cX5_pass 8 = .ok (.ifCond .ne 6, 3) := by decide +kernel
theorem dX5_pass_11 : decode cX5_pass 11 = .ok (.bipush (-2), 2) := by decide +kernel
theorem dX5_pass_13 : decode cX5_pass 13 = .ok (.ireturn, 1) := by decide +kernel
theorem dX5_pass_14 : decode cX5_pass 14 = .ok (.aload_n 0, 1) := by decide +kernel
theorem dX5_pass_15 : decode cX5_pass 15 = .ok (.getfield 30, 3) := by decide +kernel
theorem dX5_pass_18 : decode cX5_pass 18 = .ok (.aload_n 0, 1) := by decide +kernel
theorem dX5_pass_19 : decode cX5_pass 19 = .ok (.getfield 10, 3) := by decide +kernel
theorem dX5_pass_22 : decode cX5_pass 22 = .ok (.invokevirtual 49, 3) := by decide +kernel
theorem dX5_pass_25 : decode cX5_pass 25 = .ok (.aload_n 0, 1) := by decide +kernel
theorem dX5_pass_26 : decode cX5_pass 26 = .ok (.getfield 10, 3) := by decide +kernel
theorem dX5_pass_29 : decode cX5_pass 29 = .ok (.iload_n 1, 1) := by decide +kernel
theorem dX5_pass_30 : decode cX5_pass 30 = .ok (.invokevirtual 135, 3) := by decide +kernel
theorem dX5_pass_33 : decode cX5_pass 33 = .ok (.ireturn, 1) := by decide +kernel
theorem dX5_slot_0 : decode cX5_slot 0 = .ok (.iload_n 1, 1) := by decide +kernel
theorem dX5_slot_1 : decode cX5_slot 1 = .ok (.invokestatic 56, 3) := by decide +kernel
theorem dX5_slot_4 : decode cX5_slot 4 = .ok (.ifCond .ne 5, 3) := by decide +kernel
theorem dX5_slot_7 : decode cX5_slot 7 = .ok (.iconst (-1), 1) := by decide +kernel
theorem dX5_slot_8 : decode cX5_slot 8 = .ok (.ireturn, 1) := by decide +kernel
theorem dX5_slot_9 : decode cX5_slot 9 = .ok (.aload_n 0, 1) := by decide +kernel
theorem dX5_slot_10 : decode cX5_slot 10 = .ok (.getfield 10, 3) := by decide +kernel
theorem dX5_slot_13 : decode cX5_slot 13 = .ok (.iload_n 1, 1) := by decide +kernel
theorem dX5_slot_14 : decode cX5_slot 14 = .ok (.invokevirtual 78, 3) := by decide +kernel
theorem dX5_slot_17 : decode cX5_slot 17 = .ok (.astore_n 3, 1) := by decide +kernel
theorem dX5_slot_18 : decode cX5_slot 18 = .ok (.iload_n 2, 1) := by decide +kernel
theorem dX5_slot_19 : decode cX5_slot 19 = .ok (.tableswitch 117 0 8 #[49, 54, 59, 64, 69, 74, 79, 96, 103], 49) := by decide +kernel
theorem dX5_slot_68 : decode cX5_slot 68 = .ok (.aload_n 3, 1) := by decide +kernel
theorem dX5_slot_69 : decode cX5_slot 69 = .ok (.getfield 95, 3) := by decide +kernel
theorem dX5_slot_72 : decode cX5_slot 72 = .ok (.ireturn, 1) := by decide +kernel
theorem dX5_slot_73 : decode cX5_slot 73 = .ok (.aload_n 3, 1) := by decide +kernel
theorem dX5_slot_74 : decode cX5_slot 74 = .ok (.getfield 138, 3) := by decide +kernel
theorem dX5_slot_77 : decode cX5_slot 77 = .ok (.ireturn, 1) := by decide +kernel
theorem dX5_slot_78 : decode cX5_slot 78 = .ok (.aload_n 3, 1) := by decide +kernel
theorem dX5_slot_79 : decode cX5_slot 79 = .ok (.getfield 141, 3) := by decide +kernel
theorem dX5_slot_82 : decode cX5_slot 82 = .ok (.ireturn, 1) := by decide +kernel
theorem dX5_slot_83 : decode cX5_slot 83 = .ok (.aload_n 3, 1) := by decide +kernel
theorem dX5_slot_84 : decode cX5_slot 84 = .ok (.getfield 144, 3) := by decide +kernel
theorem dX5_slot_87 : decode cX5_slot 87 = .ok (.ireturn, 1) := by decide +kernel
theorem dX5_slot_88 : decode cX5_slot 88 = .ok (.aload_n 3, 1) := by decide +kernel
theorem dX5_slot_89 : decode cX5_slot 89 = .ok (.getfield 124, 3) := by decide +kernel
theorem dX5_slot_92 : decode cX5_slot 92 = .ok (.ireturn, 1) := by decide +kernel
theorem dX5_slot_93 : decode cX5_slot 93 = .ok (.aload_n 3, 1) := by decide +kernel
theorem dX5_slot_94 : decode cX5_slot 94 = .ok (.getfield 105, 3) := by decide +kernel
theorem dX5_slot_97 : decode cX5_slot 97 = .ok (.ireturn, 1) := by decide +kernel
theorem dX5_slot_98 : decode cX5_slot 98 = .ok (.aload_n 3, 1) := by decide +kernel
theorem dX5_slot_99 : decode cX5_slot 99 = .ok (.getfield 141, 3) := by decide +kernel
theorem dX5_slot_102 : decode cX5_slot 102 = .ok (.ifCond .ne 8, 3) := by decide +kernel
theorem dX5_slot_105 : decode cX5_slot 105 = .ok (.bipush (-6), 2) := by decide +kernel
theorem dX5_slot_107 : decode cX5_slot 107 = .ok (.goto 7, 3) := by decide +kernel
theorem dX5_slot_110 : decode cX5_slot 110 = .ok (.aload_n 3, 1) := by decide +kernel
theorem dX5_slot_111 : decode cX5_slot 111 = .ok (.invokevirtual 147, 3) := by decide +kernel
theorem dX5_slot_114 : decode cX5_slot 114 = .ok (.ireturn, 1) := by decide +kernel
theorem dX5_slot_115 : decode cX5_slot 115 = .ok (.aload_n 3, 1) := by decide +kernel
theorem dX5_slot_116 : decode cX5_slot 116 = .ok (.bipush 8, 2) := by decide +kernel
theorem dX5_slot_118 : decode cX5_slot 118 = .ok (.invokevirtual 92, 3) := by decide +kernel
theorem dX5_slot_121 : decode cX5_slot 121 = .ok (.ireturn, 1) := by decide +kernel
theorem dX5_slot_122 : decode cX5_slot 122 = .ok (.aload_n 3, 1) := by decide +kernel
theorem dX5_slot_123 : decode cX5_slot 123 = .ok (.aload_n 0, 1) := by decide +kernel
theorem dX5_slot_124 : decode cX5_slot 124 = .ok (.getfield 10, 3) := by decide +kernel
theorem dX5_slot_127 : decode cX5_slot 127 = .ok (.getfield 53, 3) := by decide +kernel
theorem dX5_slot_130 : decode cX5_slot 130 = .ok (.iconst 2, 1) := by decide +kernel
theorem dX5_slot_131 : decode cX5_slot 131 = .ok (.iaload, 1) := by decide +kernel
theorem dX5_slot_132 : decode cX5_slot 132 = .ok (.invokevirtual 150, 3) := by decide +kernel
theorem dX5_slot_135 : decode cX5_slot 135 = .ok (.ireturn, 1) := by decide +kernel
theorem dX5_slot_136 : decode cX5_slot 136 = .ok (.bipush (-2), 2) := by decide +kernel
theorem dX5_slot_138 : decode cX5_slot 138 = .ok (.ireturn, 1) := by decide +kernel
theorem dX5_word_0 : decode cX5_word 0 = .ok (.iload_n 1, 1) := by decide +kernel
theorem dX5_word_1 : decode cX5_word 1 = .ok (.iconst 0, 1) := by decide +kernel
theorem dX5_word_2 : decode cX5_word 2 = .ok (.iconst 2, 1) := by decide +kernel
theorem dX5_word_3 : decode cX5_word 3 = .ok (.invokestatic 41, 3) := by decide +kernel
theorem dX5_word_6 : decode cX5_word 6 = .ok (.ifCond .eq 13, 3) := by decide +kernel
theorem dX5_word_9 : decode cX5_word 9 = .ok (.iload_n 2, 1) := by decide +kernel
theorem dX5_word_10 : decode cX5_word 10 = .ok (.iconst 0, 1) := by decide +kernel
theorem dX5_word_11 : decode cX5_word 11 = .ok (.bipush 31, 2) := by decide +kernel
theorem dX5_word_13 : decode cX5_word 13 = .ok (.invokestatic 41, 3) := by decide +kernel
theorem dX5_word_16 : decode cX5_word 16 = .ok (.ifCond .ne 5, 3) := by decide +kernel
theorem dX5_word_19 : decode cX5_word 19 = .ok (.iconst (-1), 1) := by decide +kernel
theorem dX5_word_20 : decode cX5_word 20 = .ok (.ireturn, 1) := by decide +kernel
theorem dX5_word_21 : decode cX5_word 21 = .ok (.aload_n 0, 1) := by decide +kernel
theorem dX5_word_22 : decode cX5_word 22 = .ok (.getfield 10, 3) := by decide +kernel
theorem dX5_word_25 : decode cX5_word 25 = .ok (.iload_n 1, 1) := by decide +kernel
theorem dX5_word_26 : decode cX5_word 26 = .ok (.invokevirtual 78, 3) := by decide +kernel
theorem dX5_word_29 : decode cX5_word 29 = .ok (.getfield 127, 3) := by decide +kernel
theorem dX5_word_32 : decode cX5_word 32 = .ok (.iload_n 2, 1) := by decide +kernel
theorem dX5_word_33 : decode cX5_word 33 = .ok (.iaload, 1) := by decide +kernel
theorem dX5_word_34 : decode cX5_word 34 = .ok (.ireturn, 1) := by decide +kernel
theorem dX5_wear_0 : decode cX5_wear 0 = .ok (.iload_n 1, 1) := by decide +kernel
theorem dX5_wear_1 : decode cX5_wear 1 = .ok (.invokestatic 56, 3) := by decide +kernel
theorem dX5_wear_4 : decode cX5_wear 4 = .ok (.ifCond .eq 13, 3) := by decide +kernel
theorem dX5_wear_7 : decode cX5_wear 7 = .ok (.iload_n 2, 1) := by decide +kernel
theorem dX5_wear_8 : decode cX5_wear 8 = .ok (.iconst 0, 1) := by decide +kernel
theorem dX5_wear_9 : decode cX5_wear 9 = .ok (.bipush 7, 2) := by decide +kernel
theorem dX5_wear_11 : decode cX5_wear 11 = .ok (.invokestatic 41, 3) := by decide +kernel
theorem dX5_wear_14 : decode cX5_wear 14 = .ok (.ifCond .ne 5, 3) := by decide +kernel
theorem dX5_wear_17 : decode cX5_wear 17 = .ok (.iconst (-1), 1) := by decide +kernel
theorem dX5_wear_18 : decode cX5_wear 18 = .ok (.ireturn, 1) := by decide +kernel
theorem dX5_wear_19 : decode cX5_wear 19 = .ok (.aload_n 0, 1) := by decide +kernel
theorem dX5_wear_20 : decode cX5_wear 20 = .ok (.getfield 10, 3) := by decide +kernel
theorem dX5_wear_23 : decode cX5_wear 23 = .ok (.iload_n 1, 1) := by decide +kernel
theorem dX5_wear_24 : decode cX5_wear 24 = .ok (.invokevirtual 78, 3) := by decide +kernel
theorem dX5_wear_27 : decode cX5_wear 27 = .ok (.getfield 153, 3) := by decide +kernel
theorem dX5_wear_30 : decode cX5_wear 30 = .ok (.iload_n 2, 1) := by decide +kernel
theorem dX5_wear_31 : decode cX5_wear 31 = .ok (.iaload, 1) := by decide +kernel
theorem dX5_wear_32 : decode cX5_wear 32 = .ok (.ireturn, 1) := by decide +kernel
theorem dX5_past_0 : decode cX5_past 0 = .ok (.iload_n 1, 1) := by decide +kernel
theorem dX5_past_1 : decode cX5_past 1 = .ok (.iconst 0, 1) := by decide +kernel
theorem dX5_past_2 : decode cX5_past 2 = .ok (.aload_n 0, 1) := by decide +kernel
theorem dX5_past_3 : decode cX5_past 3 = .ok (.getfield 10, 3) := by decide +kernel
theorem dX5_past_6 : decode cX5_past 6 = .ok (.getfield 156, 3) := by decide +kernel
theorem dX5_past_9 : decode cX5_past 9 = .ok (.getfield 160, 3) := by decide +kernel
theorem dX5_past_12 : decode cX5_past 12 = .ok (.iconst 1, 1) := by decide +kernel
theorem dX5_past_13 : decode cX5_past 13 = .ok (.isub, 1) := by decide +kernel
theorem dX5_past_14 : decode cX5_past 14 = .ok (.invokestatic 41, 3) := by decide +kernel
theorem dX5_past_17 : decode cX5_past 17 = .ok (.ifCond .ne 5, 3) := by decide +kernel
theorem dX5_past_20 : decode cX5_past 20 = .ok (.iconst (-1), 1) := by decide +kernel
theorem dX5_past_21 : decode cX5_past 21 = .ok (.ireturn, 1) := by decide +kernel
theorem dX5_past_22 : decode cX5_past 22 = .ok (.aload_n 0, 1) := by decide +kernel
theorem dX5_past_23 : decode cX5_past 23 = .ok (.getfield 10, 3) := by decide +kernel
theorem dX5_past_26 : decode cX5_past 26 = .ok (.getfield 156, 3) := by decide +kernel
theorem dX5_past_29 : decode cX5_past 29 = .ok (.iload_n 1, 1) := by decide +kernel
theorem dX5_past_30 : decode cX5_past 30 = .ok (.invokevirtual 165, 3) := by decide +kernel
theorem dX5_past_33 : decode cX5_past 33 = .ok (.istore_n 3, 1) := by decide +kernel
theorem dX5_past_34 : decode cX5_past 34 = .ok (.iload_n 2, 1) := by decide +kernel
theorem dX5_past_35 : decode cX5_past 35 = .ok (.tableswitch 64 0 2 #[25, 38, 51], 25) := by decide +kernel
theorem dX5_past_60 : decode cX5_past 60 = .ok (.aload_n 0, 1) := by decide +kernel
theorem dX5_past_61 : decode cX5_past 61 = .ok (.getfield 10, 3) := by decide +kernel
theorem dX5_past_64 : decode cX5_past 64 = .ok (.getfield 156, 3) := by decide +kernel
theorem dX5_past_67 : decode cX5_past 67 = .ok (.getfield 168, 3) := by decide +kernel
theorem dX5_past_70 : decode cX5_past 70 = .ok (.iload_n 3, 1) := by decide +kernel
theorem dX5_past_71 : decode cX5_past 71 = .ok (.iaload, 1) := by decide +kernel
theorem dX5_past_72 : decode cX5_past 72 = .ok (.ireturn, 1) := by decide +kernel
theorem dX5_past_73 : decode cX5_past 73 = .ok (.aload_n 0, 1) := by decide +kernel
theorem dX5_past_74 : decode cX5_past 74 = .ok (.getfield 10, 3) := by decide +kernel
theorem dX5_past_77 : decode cX5_past 77 = .ok (.getfield 156, 3) := by decide +kernel
theorem dX5_past_80 : decode cX5_past 80 = .ok (.getfield 171, 3) := by decide +kernel
theorem dX5_past_83 : decode cX5_past 83 = .ok (.iload_n 3, 1) := by decide +kernel
theorem dX5_past_84 : decode cX5_past 84 = .ok (.iaload, 1) := by decide +kernel
theorem dX5_past_85 : decode cX5_past 85 = .ok (.ireturn, 1) := by decide +kernel
theorem dX5_past_86 : decode cX5_past 86 = .ok (.aload_n 0, 1) := by decide +kernel
theorem dX5_past_87 : decode cX5_past 87 = .ok (.getfield 10, 3) := by decide +kernel
theorem dX5_past_90 : decode cX5_past 90 = .ok (.getfield 156, 3) := by decide +kernel
theorem dX5_past_93 : decode cX5_past 93 = .ok (.getfield 174, 3) := by decide +kernel
theorem dX5_past_96 : decode cX5_past 96 = .ok (.iload_n 3, 1) := by decide +kernel
theorem dX5_past_97 : decode cX5_past 97 = .ok (.iaload, 1) := by decide +kernel
theorem dX5_past_98 : decode cX5_past 98 = .ok (.ireturn, 1) := by decide +kernel
theorem dX5_past_99 : decode cX5_past 99 = .ok (.bipush (-2), 2) := by decide +kernel
theorem dX5_past_101 : decode cX5_past 101 = .ok (.ireturn, 1) := by decide +kernel
theorem dX5_count_0 : decode cX5_count 0 = .ok (.iload_n 1, 1) := by decide +kernel
theorem dX5_count_1 : decode cX5_count 1 = .ok (.tableswitch 187 0 12 #[67, 75, 83, 91, 99, 110, 121, 129, 141, 151, 161, 171, 179], 67) := by decide +kernel
theorem dX5_count_68 : decode cX5_count 68 = .ok (.aload_n 0, 1) := by decide +kernel
theorem dX5_count_69 : decode cX5_count 69 = .ok (.getfield 10, 3) := by decide +kernel
theorem dX5_count_72 : decode cX5_count 72 = .ok (.getfield 67, 3) := by decide +kernel
theorem dX5_count_75 : decode cX5_count 75 = .ok (.ireturn, 1) := by decide +kernel
theorem dX5_count_76 : decode cX5_count 76 = .ok (.aload_n 0, 1) := by decide +kernel
theorem dX5_count_77 : decode cX5_count 77 = .ok (.getfield 10, 3) := by decide +kernel
theorem dX5_count_80 : decode cX5_count 80 = .ok (.getfield 177, 3) := by decide +kernel
theorem dX5_count_83 : decode cX5_count 83 = .ok (.ireturn, 1) := by decide +kernel
theorem dX5_count_84 : decode cX5_count 84 = .ok (.aload_n 0, 1) := by decide +kernel
theorem dX5_count_85 : decode cX5_count 85 = .ok (.getfield 10, 3) := by decide +kernel
theorem dX5_count_88 : decode cX5_count 88 = .ok (.getfield 179, 3) := by decide +kernel
theorem dX5_count_91 : decode cX5_count 91 = .ok (.ireturn, 1) := by decide +kernel
theorem dX5_count_92 : decode cX5_count 92 = .ok (.aload_n 0, 1) := by decide +kernel
theorem dX5_count_93 : decode cX5_count 93 = .ok (.getfield 10, 3) := by decide +kernel
theorem dX5_count_96 : decode cX5_count 96 = .ok (.getfield 71, 3) := by decide +kernel
theorem dX5_count_99 : decode cX5_count 99 = .ok (.ireturn, 1) := by decide +kernel
theorem dX5_count_100 : decode cX5_count 100 = .ok (.aload_n 0, 1) := by decide +kernel
theorem dX5_count_101 : decode cX5_count 101 = .ok (.getfield 10, 3) := by decide +kernel
theorem dX5_count_104 : decode cX5_count 104 = .ok (.getfield 156, 3) := by decide +kernel
theorem dX5_count_107 : decode cX5_count 107 = .ok (.getfield 182, 3) := by decide +kernel
theorem dX5_count_110 : decode cX5_count 110 = .ok (.ireturn, 1) := by decide +kernel
theorem dX5_count_111 : decode cX5_count 111 = .ok (.aload_n 0, 1) := by decide +kernel
theorem dX5_count_112 : decode cX5_count 112 = .ok (.getfield 10, 3) := by decide +kernel
theorem dX5_count_115 : decode cX5_count 115 = .ok (.getfield 156, 3) := by decide +kernel
theorem dX5_count_118 : decode cX5_count 118 = .ok (.getfield 185, 3) := by decide +kernel
theorem dX5_count_121 : decode cX5_count 121 = .ok (.ireturn, 1) := by decide +kernel
theorem dX5_count_122 : decode cX5_count 122 = .ok (.aload_n 0, 1) := by decide +kernel
theorem dX5_count_123 : decode cX5_count 123 = .ok (.getfield 10, 3) := by decide +kernel
theorem dX5_count_126 : decode cX5_count 126 = .ok (.getfield 188, 3) := by decide +kernel
theorem dX5_count_129 : decode cX5_count 129 = .ok (.ireturn, 1) := by decide +kernel
theorem dX5_count_130 : decode cX5_count 130 = .ok (.aload_n 0, 1) := by decide +kernel
theorem dX5_count_131 : decode cX5_count 131 = .ok (.getfield 10, 3) := by decide +kernel
theorem dX5_count_134 : decode cX5_count 134 = .ok (.iconst 2, 1) := by decide +kernel
theorem dX5_count_135 : decode cX5_count 135 = .ok (.invokevirtual 78, 3) := by decide +kernel
theorem dX5_count_138 : decode cX5_count 138 = .ok (.invokevirtual 147, 3) := by decide +kernel
theorem dX5_count_141 : decode cX5_count 141 = .ok (.ireturn, 1) := by decide +kernel
theorem dX5_count_142 : decode cX5_count 142 = .ok (.aload_n 0, 1) := by decide +kernel
theorem dX5_count_143 : decode cX5_count 143 = .ok (.getfield 10, 3) := by decide +kernel
theorem dX5_count_146 : decode cX5_count 146 = .ok (.getfield 53, 3) := by decide +kernel
theorem dX5_count_149 : decode cX5_count 149 = .ok (.iconst 0, 1) := by decide +kernel
theorem dX5_count_150 : decode cX5_count 150 = .ok (.iaload, 1) := by decide +kernel
theorem dX5_count_151 : decode cX5_count 151 = .ok (.ireturn, 1) := by decide +kernel
theorem dX5_count_152 : decode cX5_count 152 = .ok (.aload_n 0, 1) := by decide +kernel
theorem dX5_count_153 : decode cX5_count 153 = .ok (.getfield 10, 3) := by decide +kernel
theorem dX5_count_156 : decode cX5_count 156 = .ok (.getfield 53, 3) := by decide +kernel
theorem dX5_count_159 : decode cX5_count 159 = .ok (.iconst 1, 1) := by decide +kernel
theorem dX5_count_160 : decode cX5_count 160 = .ok (.iaload, 1) := by decide +kernel
theorem dX5_count_161 : decode cX5_count 161 = .ok (.ireturn, 1) := by decide +kernel
theorem dX5_count_162 : decode cX5_count 162 = .ok (.aload_n 0, 1) := by decide +kernel
theorem dX5_count_163 : decode cX5_count 163 = .ok (.getfield 10, 3) := by decide +kernel
theorem dX5_count_166 : decode cX5_count 166 = .ok (.getfield 53, 3) := by decide +kernel
theorem dX5_count_169 : decode cX5_count 169 = .ok (.iconst 2, 1) := by decide +kernel
theorem dX5_count_170 : decode cX5_count 170 = .ok (.iaload, 1) := by decide +kernel
theorem dX5_count_171 : decode cX5_count 171 = .ok (.ireturn, 1) := by decide +kernel
theorem dX5_count_172 : decode cX5_count 172 = .ok (.aload_n 0, 1) := by decide +kernel
theorem dX5_count_173 : decode cX5_count 173 = .ok (.getfield 37, 3) := by decide +kernel
theorem dX5_count_176 : decode cX5_count 176 = .ok (.getfield 191, 3) := by decide +kernel
theorem dX5_count_179 : decode cX5_count 179 = .ok (.ireturn, 1) := by decide +kernel
theorem dX5_count_180 : decode cX5_count 180 = .ok (.aload_n 0, 1) := by decide +kernel
theorem dX5_count_181 : decode cX5_count 181 = .ok (.getfield 30, 3) := by decide +kernel
theorem dX5_count_184 : decode cX5_count 184 = .ok (.getfield 192, 3) := by decide +kernel
theorem dX5_count_187 : decode cX5_count 187 = .ok (.ireturn, 1) := by decide +kernel
theorem dX5_count_188 : decode cX5_count 188 = .ok (.bipush (-2), 2) := by decide +kernel
theorem dX5_count_190 : decode cX5_count 190 = .ok (.ireturn, 1) := by decide +kernel
theorem dX5_padSum_0 : decode cX5_padSum 0 = .ok (.aload_n 0, 1) := by decide +kernel
theorem dX5_padSum_1 : decode cX5_padSum 1 = .ok (.getfield 37, 3) := by decide +kernel
theorem dX5_padSum_4 : decode cX5_padSum 4 = .ok (.invokevirtual 108, 3) := by decide +kernel
theorem dX5_padSum_7 : decode cX5_padSum 7 = .ok (.bipush (-6), 2) := by decide +kernel
theorem dX5_padSum_9 : decode cX5_padSum 9 = .ok (.if_icmp .ne 13, 3) := by decide +kernel
theorem dX5_padSum_12 : decode cX5_padSum 12 = .ok (.aload_n 0, 1) := by decide +kernel
theorem dX5_padSum_13 : decode cX5_padSum 13 = .ok (.getfield 37, 3) := by decide +kernel
theorem dX5_padSum_16 : decode cX5_padSum 16 = .ok (.invokevirtual 195, 3) := by decide +kernel
theorem dX5_padSum_19 : decode cX5_padSum 19 = .ok (.goto 5, 3) := by decide +kernel
theorem dX5_padSum_22 : decode cX5_padSum 22 = .ok (.bipush (-3), 2) := by decide +kernel
theorem dX5_padSum_24 : decode cX5_padSum 24 = .ok (.ireturn, 1) := by decide +kernel
theorem dX5_ifStarted_0 : decode cX5_ifStarted 0 = .ok (.aload_n 0, 1) := by decide +kernel
theorem dX5_ifStarted_1 : decode cX5_ifStarted 1 = .ok (.getfield 16, 3) := by decide +kernel
theorem dX5_ifStarted_4 : decode cX5_ifStarted 4 = .ok (.aload_n 0, 1) := by decide +kernel
theorem dX5_ifStarted_5 : decode cX5_ifStarted 5 = .ok (.getfield 10, 3) := by decide +kernel
theorem dX5_ifStarted_8 : decode cX5_ifStarted 8 = .ok (.invokevirtual 198, 3) := by decide +kernel
theorem dX5_ifStarted_11 : decode cX5_ifStarted 11 = .ok (.aload_n 0, 1) := by decide +kernel
theorem dX5_ifStarted_12 : decode cX5_ifStarted 12 = .ok (.getfield 16, 3) := by decide +kernel
theorem dX5_ifStarted_15 : decode cX5_ifStarted 15 = .ok (.iload_n 1, 1) := by decide +kernel
theorem dX5_ifStarted_16 : decode cX5_ifStarted 16 = .ok (.ifCond .eq 7, 3) := by decide +kernel
theorem dX5_ifStarted_19 : decode cX5_ifStarted 19 = .ok (.iconst 2, 1) := by decide +kernel
theorem dX5_ifStarted_20 : decode cX5_ifStarted 20 = .ok (.goto 4, 3) := by decide +kernel
theorem dX5_ifStarted_23 : decode cX5_ifStarted 23 = .ok (.iconst 0, 1) := by decide +kernel
theorem dX5_ifStarted_24 : decode cX5_ifStarted 24 = .ok (.invokevirtual 132, 3) := by decide +kernel
theorem dX5_ifStarted_27 : decode cX5_ifStarted 27 = .ok (.aload_n 0, 1) := by decide +kernel
theorem dX5_ifStarted_28 : decode cX5_ifStarted 28 = .ok (.getfield 16, 3) := by decide +kernel
theorem dX5_ifStarted_31 : decode cX5_ifStarted 31 = .ok (.getfield 67, 3) := by decide +kernel
theorem dX5_ifStarted_34 : decode cX5_ifStarted 34 = .ok (.bipush 10, 2) := by decide +kernel
theorem dX5_ifStarted_36 : decode cX5_ifStarted 36 = .ok (.aload_n 0, 1) := by decide +kernel
theorem dX5_ifStarted_37 : decode cX5_ifStarted 37 = .ok (.getfield 16, 3) := by decide +kernel
theorem dX5_ifStarted_40 : decode cX5_ifStarted 40 = .ok (.invokevirtual 201, 3) := by decide +kernel
theorem dX5_ifStarted_43 : decode cX5_ifStarted 43 = .ok (.aload_n 0, 1) := by decide +kernel
theorem dX5_ifStarted_44 : decode cX5_ifStarted 44 = .ok (.getfield 10, 3) := by decide +kernel
theorem dX5_ifStarted_47 : decode cX5_ifStarted 47 = .ok (.invokevirtual 201, 3) := by decide +kernel
theorem dX5_ifStarted_50 : decode cX5_ifStarted 50 = .ok (.isub, 1) := by decide +kernel
theorem dX5_ifStarted_51 : decode cX5_ifStarted 51 = .ok (.imul, 1) := by decide +kernel
theorem dX5_ifStarted_52 : decode cX5_ifStarted 52 = .ok (.iadd, 1) := by decide +kernel
theorem dX5_ifStarted_53 : decode cX5_ifStarted 53 = .ok (.ireturn, 1) := by decide +kernel
theorem dX5_ifPassed_0 : decode cX5_ifPassed 0 = .ok (.iload_n 1, 1) := by decide +kernel
theorem dX5_ifPassed_1 : decode cX5_ifPassed 1 = .ok (.iconst 1, 1) := by decide +kernel
theorem dX5_ifPassed_2 : decode cX5_ifPassed 2 = .ok (.sipush 500, 3) := by decide +kernel
theorem dX5_ifPassed_5 : decode cX5_ifPassed 5 = .ok (.invokestatic 41, 3) := by decide +kernel
theorem dX5_ifPassed_8 : decode cX5_ifPassed 8 = .ok (.ifCond .eq 12, 3) := by decide +kernel
theorem dX5_ifPassed_11 : decode cX5_ifPassed 11 = .ok (.iload_n 2, 1) := by decide +kernel
theorem dX5_ifPassed_12 : decode cX5_ifPassed 12 = .ok (.iconst 0, 1) := by decide +kernel
theorem dX5_ifPassed_13 : decode cX5_ifPassed 13 = .ok (.iconst 3, 1) := by decide +kernel
theorem dX5_ifPassed_14 : decode cX5_ifPassed 14 = .ok (.invokestatic 41, 3) := by decide +kernel
theorem dX5_ifPassed_17 : decode cX5_ifPassed 17 = .ok (.ifCond .ne 6, 3) := by decide +kernel
theorem dX5_ifPassed_20 : decode cX5_ifPassed 20 = .ok (.bipush (-2), 2) := by decide +kernel
theorem dX5_ifPassed_22 : decode cX5_ifPassed 22 = .ok (.ireturn, 1) := by decide +kernel
theorem dX5_ifPassed_23 : decode cX5_ifPassed 23 = .ok (.aload_n 0, 1) := by decide +kernel
theorem dX5_ifPassed_24 : decode cX5_ifPassed 24 = .ok (.getfield 16, 3) := by decide +kernel
theorem dX5_ifPassed_27 : decode cX5_ifPassed 27 = .ok (.aload_n 0, 1) := by decide +kernel
theorem dX5_ifPassed_28 : decode cX5_ifPassed 28 = .ok (.getfield 10, 3) := by decide +kernel
theorem dX5_ifPassed_31 : decode cX5_ifPassed 31 = .ok (.invokevirtual 198, 3) := by decide +kernel
theorem dX5_ifPassed_34 : decode cX5_ifPassed 34 = .ok (.aload_n 0, 1) := by decide +kernel
theorem dX5_ifPassed_35 : decode cX5_ifPassed 35 = .ok (.getfield 16, 3) := by decide +kernel
theorem dX5_ifPassed_38 : decode cX5_ifPassed 38 = .ok (.iload_n 1, 1) := by decide +kernel
theorem dX5_ifPassed_39 : decode cX5_ifPassed 39 = .ok (.invokevirtual 135, 3) := by decide +kernel
theorem dX5_ifPassed_42 : decode cX5_ifPassed 42 = .ok (.istore_n 3, 1) := by decide +kernel
theorem dX5_ifPassed_43 : decode cX5_ifPassed 43 = .ok (.iload_n 2, 1) := by decide +kernel
theorem dX5_ifPassed_44 : decode cX5_ifPassed 44 = .ok (.tableswitch 50 0 2 #[28, 30, 38], 28) := by decide +kernel
theorem dX5_ifPassed_72 : decode cX5_ifPassed 72 = .ok (.iload_n 3, 1) := by decide +kernel
theorem dX5_ifPassed_73 : decode cX5_ifPassed 73 = .ok (.ireturn, 1) := by decide +kernel
theorem dX5_ifPassed_74 : decode cX5_ifPassed 74 = .ok (.aload_n 0, 1) := by decide +kernel
theorem dX5_ifPassed_75 : decode cX5_ifPassed 75 = .ok (.getfield 16, 3) := by decide +kernel
theorem dX5_ifPassed_78 : decode cX5_ifPassed 78 = .ok (.getfield 67, 3) := by decide +kernel
theorem dX5_ifPassed_81 : decode cX5_ifPassed 81 = .ok (.ireturn, 1) := by decide +kernel
theorem dX5_ifPassed_82 : decode cX5_ifPassed 82 = .ok (.aload_n 0, 1) := by decide +kernel
theorem dX5_ifPassed_83 : decode cX5_ifPassed 83 = .ok (.getfield 16, 3) := by decide +kernel
theorem dX5_ifPassed_86 : decode cX5_ifPassed 86 = .ok (.iconst 0, 1) := by decide +kernel
theorem dX5_ifPassed_87 : decode cX5_ifPassed 87 = .ok (.invokevirtual 78, 3) := by decide +kernel
theorem dX5_ifPassed_90 : decode cX5_ifPassed 90 = .ok (.getfield 95, 3) := by decide +kernel
theorem dX5_ifPassed_93 : decode cX5_ifPassed 93 = .ok (.ireturn, 1) := by decide +kernel
theorem dX5_ifPassed_94 : decode cX5_ifPassed 94 = .ok (.aload_n 0, 1) := by decide +kernel
theorem dX5_ifPassed_95 : decode cX5_ifPassed 95 = .ok (.getfield 16, 3) := by decide +kernel
theorem dX5_ifPassed_98 : decode cX5_ifPassed 98 = .ok (.iconst 1, 1) := by decide +kernel
theorem dX5_ifPassed_99 : decode cX5_ifPassed 99 = .ok (.invokevirtual 78, 3) := by decide +kernel
theorem dX5_ifPassed_102 : decode cX5_ifPassed 102 = .ok (.getfield 95, 3) := by decide +kernel
theorem dX5_ifPassed_105 : decode cX5_ifPassed 105 = .ok (.ireturn, 1) := by decide +kernel
theorem dX5_nextStart_0 : decode cX5_nextStart 0 = .ok (.aload_n 0, 1) := by decide +kernel
theorem dX5_nextStart_1 : decode cX5_nextStart 1 = .ok (.getfield 16, 3) := by decide +kernel
theorem dX5_nextStart_4 : decode cX5_nextStart 4 = .ok (.aload_n 0, 1) := by decide +kernel
theorem dX5_nextStart_5 : decode cX5_nextStart 5 = .ok (.getfield 10, 3) := by decide +kernel
theorem dX5_nextStart_8 : decode cX5_nextStart 8 = .ok (.invokevirtual 198, 3) := by decide +kernel
theorem dX5_nextStart_11 : decode cX5_nextStart 11 = .ok (.iconst 1, 1) := by decide +kernel
theorem dX5_nextStart_12 : decode cX5_nextStart 12 = .ok (.istore_n 1, 1) := by decide +kernel
theorem dX5_nextStart_13 : decode cX5_nextStart 13 = .ok (.iload_n 1, 1) := by decide +kernel
theorem dX5_nextStart_14 : decode cX5_nextStart 14 = .ok (.sipush 2000, 3) := by decide +kernel
theorem dX5_nextStart_17 : decode cX5_nextStart 17 = .ok (.if_icmp .gt 21, 3) := by decide +kernel
theorem dX5_nextStart_20 : decode cX5_nextStart 20 = .ok (.aload_n 0, 1) := by decide +kernel
theorem dX5_nextStart_21 : decode cX5_nextStart 21 = .ok (.getfield 16, 3) := by decide +kernel
theorem dX5_nextStart_24 : decode cX5_nextStart 24 = .ok (.invokevirtual 204, 3) := by decide +kernel
theorem dX5_nextStart_27 : decode cX5_nextStart 27 = .ok (.ifCond .eq 5, 3) := by decide +kernel
theorem dX5_nextStart_30 : decode cX5_nextStart 30 = .ok (.iload_n 1, 1) := by decide +kernel
theorem dX5_nextStart_31 : decode cX5_nextStart 31 = .ok (.ireturn, 1) := by decide +kernel
theorem dX5_nextStart_32 : decode cX5_nextStart 32 = .ok (.iinc 1 1, 3) := by decide +kernel
theorem dX5_nextStart_35 : decode cX5_nextStart 35 = .ok (.goto (-22), 3) := by decide +kernel
theorem dX5_nextStart_38 : decode cX5_nextStart 38 = .ok (.bipush (-6), 2) := by decide +kernel
theorem dX5_nextStart_40 : decode cX5_nextStart 40 = .ok (.ireturn, 1) := by decide +kernel
theorem dX5_lasts_0 : decode cX5_lasts 0 = .ok (.iload_n 1, 1) := by decide +kernel
theorem dX5_lasts_1 : decode cX5_lasts 1 = .ok (.invokestatic 56, 3) := by decide +kernel
theorem dX5_lasts_4 : decode cX5_lasts 4 = .ok (.ifCond .ne 5, 3) := by decide +kernel
theorem dX5_lasts_7 : decode cX5_lasts 7 = .ok (.iconst (-1), 1) := by decide +kernel
theorem dX5_lasts_8 : decode cX5_lasts 8 = .ok (.ireturn, 1) := by decide +kernel
theorem dX5_lasts_9 : decode cX5_lasts 9 = .ok (.iload_n 2, 1) := by decide +kernel
theorem dX5_lasts_10 : decode cX5_lasts 10 = .ok (.invokestatic 60, 3) := by decide +kernel
theorem dX5_lasts_13 : decode cX5_lasts 13 = .ok (.ifCond .eq 18, 3) := by decide +kernel
theorem dX5_lasts_16 : decode cX5_lasts 16 = .ok (.aload_n 0, 1) := by decide +kernel
theorem dX5_lasts_17 : decode cX5_lasts 17 = .ok (.getfield 10, 3) := by decide +kernel
theorem dX5_lasts_20 : decode cX5_lasts 20 = .ok (.iload_n 1, 1) := by decide +kernel
theorem dX5_lasts_21 : decode cX5_lasts 21 = .ok (.iload_n 2, 1) := by decide +kernel
theorem dX5_lasts_22 : decode cX5_lasts 22 = .ok (.invokestatic 63, 3) := by decide +kernel
theorem dX5_lasts_25 : decode cX5_lasts 25 = .ok (.invokevirtual 74, 3) := by decide +kernel
theorem dX5_lasts_28 : decode cX5_lasts 28 = .ok (.goto 5, 3) := by decide +kernel
theorem dX5_lasts_31 : decode cX5_lasts 31 = .ok (.bipush (-2), 2) := by decide +kernel
theorem dX5_lasts_33 : decode cX5_lasts 33 = .ok (.ireturn, 1) := by decide +kernel
theorem dX5_put_0 : decode cX5_put 0 = .ok (.lload_n 1, 1) := by decide +kernel
theorem dX5_put_1 : decode cX5_put 1 = .ok (.invokestatic 207, 3) := by decide +kernel
theorem dX5_put_4 : decode cX5_put 4 = .ok (.istore_n 3, 1) := by decide +kernel
theorem dX5_put_5 : decode cX5_put 5 = .ok (.iload_n 3, 1) := by decide +kernel
theorem dX5_put_6 : decode cX5_put 6 = .ok (.ifCond .ne 6, 3) := by decide +kernel
theorem dX5_put_9 : decode cX5_put 9 = .ok (.bipush (-2), 2) := by decide +kernel
theorem dX5_put_11 : decode cX5_put 11 = .ok (.ireturn, 1) := by decide +kernel
theorem dX5_put_12 : decode cX5_put 12 = .ok (.iload_n 3, 1) := by decide +kernel
theorem dX5_put_13 : decode cX5_put 13 = .ok (.bipush 64, 2) := by decide +kernel
theorem dX5_put_15 : decode cX5_put 15 = .ok (.aload_n 0, 1) := by decide +kernel
theorem dX5_put_16 : decode cX5_put 16 = .ok (.getfield 37, 3) := by decide +kernel
theorem dX5_put_19 : decode cX5_put 19 = .ok (.getfield 191, 3) := by decide +kernel
theorem dX5_put_22 : decode cX5_put 22 = .ok (.isub, 1) := by decide +kernel
theorem dX5_put_23 : decode cX5_put 23 = .ok (.if_icmp .le 6, 3) := by decide +kernel
theorem dX5_put_26 : decode cX5_put 26 = .ok (.bipush (-4), 2) := by decide +kernel
theorem dX5_put_28 : decode cX5_put 28 = .ok (.ireturn, 1) := by decide +kernel
theorem dX5_put_29 : decode cX5_put 29 = .ok (.aload_n 0, 1) := by decide +kernel
theorem dX5_put_30 : decode cX5_put 30 = .ok (.getfield 37, 3) := by decide +kernel
theorem dX5_put_33 : decode cX5_put 33 = .ok (.lload_n 1, 1) := by decide +kernel
theorem dX5_put_34 : decode cX5_put 34 = .ok (.iload_n 3, 1) := by decide +kernel
theorem dX5_put_35 : decode cX5_put 35 = .ok (.invokevirtual 211, 3) := by decide +kernel
theorem dX5_put_38 : decode cX5_put 38 = .ok (.aload_n 0, 1) := by decide +kernel
theorem dX5_put_39 : decode cX5_put 39 = .ok (.getfield 37, 3) := by decide +kernel
theorem dX5_put_42 : decode cX5_put 42 = .ok (.getfield 191, 3) := by decide +kernel
theorem dX5_put_45 : decode cX5_put 45 = .ok (.ireturn, 1) := by decide +kernel
theorem dX5_wipe_0 : decode cX5_wipe 0 = .ok (.aload_n 0, 1) := by decide +kernel
theorem dX5_wipe_1 : decode cX5_wipe 1 = .ok (.getfield 37, 3) := by decide +kernel
theorem dX5_wipe_4 : decode cX5_wipe 4 = .ok (.getfield 191, 3) := by decide +kernel
theorem dX5_wipe_7 : decode cX5_wipe 7 = .ok (.istore_n 1, 1) := by decide +kernel
theorem dX5_wipe_8 : decode cX5_wipe 8 = .ok (.aload_n 0, 1) := by decide +kernel
theorem dX5_wipe_9 : decode cX5_wipe 9 = .ok (.getfield 37, 3) := by decide +kernel
theorem dX5_wipe_12 : decode cX5_wipe 12 = .ok (.invokevirtual 117, 3) := by decide +kernel
theorem dX5_wipe_15 : decode cX5_wipe 15 = .ok (.iload_n 1, 1) := by decide +kernel
theorem dX5_wipe_16 : decode cX5_wipe 16 = .ok (.ireturn, 1) := by decide +kernel
theorem dX5_fault_0 : decode cX5_fault 0 = .ok (.aload_n 0, 1) := by decide +kernel
theorem dX5_fault_1 : decode cX5_fault 1 = .ok (.getfield 37, 3) := by decide +kernel
theorem dX5_fault_4 : decode cX5_fault 4 = .ok (.invokevirtual 108, 3) := by decide +kernel
theorem dX5_fault_7 : decode cX5_fault 7 = .ok (.ireturn, 1) := by decide +kernel
theorem dX5_undo_0 : decode cX5_undo 0 = .ok (.aload_n 0, 1) := by decide +kernel
theorem dX5_undo_1 : decode cX5_undo 1 = .ok (.getfield 30, 3) := by decide +kernel
theorem dX5_undo_4 : decode cX5_undo 4 = .ok (.getfield 192, 3) := by decide +kernel
theorem dX5_undo_7 : decode cX5_undo 7 = .ok (.ifCond .ne 6, 3) := by decide +kernel
theorem dX5_undo_10 : decode cX5_undo 10 = .ok (.bipush (-5), 2) := by decide +kernel
theorem dX5_undo_12 : decode cX5_undo 12 = .ok (.ireturn, 1) := by decide +kernel
theorem dX5_undo_13 : decode cX5_undo 13 = .ok (.aload_n 0, 1) := by decide +kernel
theorem dX5_undo_14 : decode cX5_undo 14 = .ok (.getfield 30, 3) := by decide +kernel
theorem dX5_undo_17 : decode cX5_undo 17 = .ok (.aload_n 0, 1) := by decide +kernel
theorem dX5_undo_18 : decode cX5_undo 18 = .ok (.getfield 10, 3) := by decide +kernel
theorem dX5_undo_21 : decode cX5_undo 21 = .ok (.invokevirtual 215, 3) := by decide +kernel
theorem dX5_undo_24 : decode cX5_undo 24 = .ok (.aload_n 0, 1) := by decide +kernel
theorem dX5_undo_25 : decode cX5_undo 25 = .ok (.getfield 30, 3) := by decide +kernel
theorem dX5_undo_28 : decode cX5_undo 28 = .ok (.getfield 192, 3) := by decide +kernel
theorem dX5_undo_31 : decode cX5_undo 31 = .ok (.ireturn, 1) := by decide +kernel
theorem dX5_save_0 : decode cX5_save 0 = .ok (.iload_n 1, 1) := by decide +kernel
theorem dX5_save_1 : decode cX5_save 1 = .ok (.iconst 0, 1) := by decide +kernel
theorem dX5_save_2 : decode cX5_save 2 = .ok (.iconst 1, 1) := by decide +kernel
theorem dX5_save_3 : decode cX5_save 3 = .ok (.invokestatic 41, 3) := by decide +kernel
theorem dX5_save_6 : decode cX5_save 6 = .ok (.ifCond .ne 6, 3) := by decide +kernel
theorem dX5_save_9 : decode cX5_save 9 = .ok (.bipush (-2), 2) := by decide +kernel
theorem dX5_save_11 : decode cX5_save 11 = .ok (.ireturn, 1) := by decide +kernel
theorem dX5_save_12 : decode cX5_save 12 = .ok (.aload_n 0, 1) := by decide +kernel
theorem dX5_save_13 : decode cX5_save 13 = .ok (.getfield 19, 3) := by decide +kernel
theorem dX5_save_16 : decode cX5_save 16 = .ok (.iload_n 1, 1) := by decide +kernel
theorem dX5_save_17 : decode cX5_save 17 = .ok (.aaload, 1) := by decide +kernel
theorem dX5_save_18 : decode cX5_save 18 = .ok (.aload_n 0, 1) := by decide +kernel
theorem dX5_save_19 : decode cX5_save 19 = .ok (.getfield 10, 3) := by decide +kernel
theorem dX5_save_22 : decode cX5_save 22 = .ok (.invokevirtual 198, 3) := by decide +kernel
theorem dX5_save_25 : decode cX5_save 25 = .ok (.aload_n 0, 1) := by decide +kernel
theorem dX5_save_26 : decode cX5_save 26 = .ok (.getfield 23, 3) := by decide +kernel
theorem dX5_save_29 : decode cX5_save 29 = .ok (.iload_n 1, 1) := by decide +kernel
theorem dX5_save_30 : decode cX5_save 30 = .ok (.iconst 1, 1) := by decide +kernel
theorem dX5_save_31 : decode cX5_save 31 = .ok (.bastore, 1) := by decide +kernel
theorem dX5_save_32 : decode cX5_save 32 = .ok (.aload_n 0, 1) := by decide +kernel
theorem dX5_save_33 : decode cX5_save 33 = .ok (.getfield 10, 3) := by decide +kernel
theorem dX5_save_36 : decode cX5_save 36 = .ok (.getfield 67, 3) := by decide +kernel
theorem dX5_save_39 : decode cX5_save 39 = .ok (.ireturn, 1) := by decide +kernel
theorem dX5_restore_0 : decode cX5_restore 0 = .ok (.iload_n 1, 1) := by decide +kernel
theorem dX5_restore_1 : decode cX5_restore 1 = .ok (.iconst 0, 1) := by decide +kernel
theorem dX5_restore_2 : decode cX5_restore 2 = .ok (.iconst 1, 1) := by decide +kernel
theorem dX5_restore_3 : decode cX5_restore 3 = .ok (.invokestatic 41, 3) := by decide +kernel
theorem dX5_restore_6 : decode cX5_restore 6 = .ok (.ifCond .ne 6, 3) := by decide +kernel
theorem dX5_restore_9 : decode cX5_restore 9 = .ok (.bipush (-2), 2) := by decide +kernel
theorem dX5_restore_11 : decode cX5_restore 11 = .ok (.ireturn, 1) := by decide +kernel
theorem dX5_restore_12 : decode cX5_restore 12 = .ok (.aload_n 0, 1) := by decide +kernel
theorem dX5_restore_13 : decode cX5_restore 13 = .ok (.getfield 23, 3) := by decide +kernel
theorem dX5_restore_16 : decode cX5_restore 16 = .ok (.iload_n 1, 1) := by decide +kernel
theorem dX5_restore_17 : decode cX5_restore 17 = .ok (.baload, 1) := by decide +kernel
theorem dX5_restore_18 : decode cX5_restore 18 = .ok (.ifCond .ne 6, 3) := by decide +kernel
theorem dX5_restore_21 : decode cX5_restore 21 = .ok (.bipush (-5), 2) := by decide +kernel
theorem dX5_restore_23 : decode cX5_restore 23 = .ok (.ireturn, 1) := by decide +kernel
theorem dX5_restore_24 : decode cX5_restore 24 = .ok (.aload_n 0, 1) := by decide +kernel
theorem dX5_restore_25 : decode cX5_restore 25 = .ok (.getfield 30, 3) := by decide +kernel
theorem dX5_restore_28 : decode cX5_restore 28 = .ok (.aload_n 0, 1) := by decide +kernel
theorem dX5_restore_29 : decode cX5_restore 29 = .ok (.getfield 10, 3) := by decide +kernel
theorem dX5_restore_32 : decode cX5_restore 32 = .ok (.invokevirtual 49, 3) := by decide +kernel
theorem dX5_restore_35 : decode cX5_restore 35 = .ok (.aload_n 0, 1) := by decide +kernel
theorem dX5_restore_36 : decode cX5_restore 36 = .ok (.getfield 10, 3) := by decide +kernel
theorem dX5_restore_39 : decode cX5_restore 39 = .ok (.aload_n 0, 1) := by decide +kernel
theorem dX5_restore_40 : decode cX5_restore 40 = .ok (.getfield 19, 3) := by decide +kernel
theorem dX5_restore_43 : decode cX5_restore 43 = .ok (.iload_n 1, 1) := by decide +kernel
theorem dX5_restore_44 : decode cX5_restore 44 = .ok (.aaload, 1) := by decide +kernel
theorem dX5_restore_45 : decode cX5_restore 45 = .ok (.invokevirtual 198, 3) := by decide +kernel
theorem dX5_restore_48 : decode cX5_restore 48 = .ok (.aload_n 0, 1) := by decide +kernel
theorem dX5_restore_49 : decode cX5_restore 49 = .ok (.getfield 10, 3) := by decide +kernel
theorem dX5_restore_52 : decode cX5_restore 52 = .ok (.getfield 67, 3) := by decide +kernel
theorem dX5_restore_55 : decode cX5_restore 55 = .ok (.ireturn, 1) := by decide +kernel
theorem dX5_isWithin_0 : decode cX5_isWithin 0 = .ok (.iload_n 0, 1) := by decide +kernel
theorem dX5_isWithin_1 : decode cX5_isWithin 1 = .ok (.iload_n 1, 1) := by decide +kernel
theorem dX5_isWithin_2 : decode cX5_isWithin 2 = .ok (.if_icmp .lt 12, 3) := by decide +kernel
theorem dX5_isWithin_5 : decode cX5_isWithin 5 = .ok (.iload_n 0, 1) := by decide +kernel
theorem dX5_isWithin_6 : decode cX5_isWithin 6 = .ok (.iload_n 2, 1) := by decide +kernel
theorem dX5_isWithin_7 : decode cX5_isWithin 7 = .ok (.if_icmp .gt 7, 3) := by decide +kernel
theorem dX5_isWithin_10 : decode cX5_isWithin 10 = .ok (.iconst 1, 1) := by decide +kernel
theorem dX5_isWithin_11 : decode cX5_isWithin 11 = .ok (.goto 4, 3) := by decide +kernel
theorem dX5_isWithin_14 : decode cX5_isWithin 14 = .ok (.iconst 0, 1) := by decide +kernel
theorem dX5_isWithin_15 : decode cX5_isWithin 15 = .ok (.ireturn, 1) := by decide +kernel
theorem dX5_isSlot_0 : decode cX5_isSlot 0 = .ok (.iload_n 0, 1) := by decide +kernel
theorem dX5_isSlot_1 : decode cX5_isSlot 1 = .ok (.iconst 0, 1) := by decide +kernel
theorem dX5_isSlot_2 : decode cX5_isSlot 2 = .ok (.iconst 1, 1) := by decide +kernel
theorem dX5_isSlot_3 : decode cX5_isSlot 3 = .ok (.invokestatic 41, 3) := by decide +kernel
theorem dX5_isSlot_6 : decode cX5_isSlot 6 = .ok (.ireturn, 1) := by decide +kernel
theorem dX5_isLength_0 : decode cX5_isLength 0 = .ok (.iload_n 0, 1) := by decide +kernel
theorem dX5_isLength_1 : decode cX5_isLength 1 = .ok (.iconst 2, 1) := by decide +kernel
theorem dX5_isLength_2 : decode cX5_isLength 2 = .ok (.bipush 32, 2) := by decide +kernel
theorem dX5_isLength_4 : decode cX5_isLength 4 = .ok (.invokestatic 41, 3) := by decide +kernel
theorem dX5_isLength_7 : decode cX5_isLength 7 = .ok (.ireturn, 1) := by decide +kernel
theorem dX5_pagesOf_0 : decode cX5_pagesOf 0 = .ok (.iload_n 0, 1) := by decide +kernel
theorem dX5_pagesOf_1 : decode cX5_pagesOf 1 = .ok (.iconst 4, 1) := by decide +kernel
theorem dX5_pagesOf_2 : decode cX5_pagesOf 2 = .ok (.iadd, 1) := by decide +kernel
theorem dX5_pagesOf_3 : decode cX5_pagesOf 3 = .ok (.iconst 1, 1) := by decide +kernel
theorem dX5_pagesOf_4 : decode cX5_pagesOf 4 = .ok (.isub, 1) := by decide +kernel
theorem dX5_pagesOf_5 : decode cX5_pagesOf 5 = .ok (.iconst 4, 1) := by decide +kernel
theorem dX5_pagesOf_6 : decode cX5_pagesOf 6 = .ok (.idiv, 1) := by decide +kernel
theorem dX5_pagesOf_7 : decode cX5_pagesOf 7 = .ok (.ireturn, 1) := by decide +kernel
theorem dX5_sumWith_0 : decode cX5_sumWith 0 = .ok (.iconst 3, 1) := by decide +kernel
theorem dX5_sumWith_1 : decode cX5_sumWith 1 = .ok (.iload_n 0, 1) := by decide +kernel
theorem dX5_sumWith_2 : decode cX5_sumWith 2 = .ok (.imul, 1) := by decide +kernel
theorem dX5_sumWith_3 : decode cX5_sumWith 3 = .ok (.iload_n 1, 1) := by decide +kernel
theorem dX5_sumWith_4 : decode cX5_sumWith 4 = .ok (.iadd, 1) := by decide +kernel
theorem dX5_sumWith_5 : decode cX5_sumWith 5 = .ok (.sipush 251, 3) := by decide +kernel
theorem dX5_sumWith_8 : decode cX5_sumWith 8 = .ok (.irem, 1) := by decide +kernel
theorem dX5_sumWith_9 : decode cX5_sumWith 9 = .ok (.ireturn, 1) := by decide +kernel
theorem dJ9_floorMod_7cf53_0 : decode cJ9_floorMod_7cf53 0 = .ok (.iload_n 0, 1) := by decide +kernel
theorem dJ9_floorMod_7cf53_1 : decode cJ9_floorMod_7cf53 1 = .ok (.iload_n 1, 1) := by decide +kernel
theorem dJ9_floorMod_7cf53_2 : decode cJ9_floorMod_7cf53 2 = .ok (.irem, 1) := by decide +kernel
theorem dJ9_floorMod_7cf53_3 : decode cJ9_floorMod_7cf53 3 = .ok (.istore_n 2, 1) := by decide +kernel
theorem dJ9_floorMod_7cf53_4 : decode cJ9_floorMod_7cf53 4 = .ok (.iload_n 0, 1) := by decide +kernel
theorem dJ9_floorMod_7cf53_5 : decode cJ9_floorMod_7cf53 5 = .ok (.iload_n 1, 1) := by decide +kernel
theorem dJ9_floorMod_7cf53_6 : decode cJ9_floorMod_7cf53 6 = .ok (.ixor, 1) := by decide +kernel
theorem dJ9_floorMod_7cf53_7 : decode cJ9_floorMod_7cf53 7 = .ok (.ifCond .ge 11, 3) := by decide +kernel
theorem dJ9_floorMod_7cf53_10 : decode cJ9_floorMod_7cf53 10 = .ok (.iload_n 2, 1) := by decide +kernel
theorem dJ9_floorMod_7cf53_11 : decode cJ9_floorMod_7cf53 11 = .ok (.ifCond .eq 7, 3) := by decide +kernel
theorem dJ9_floorMod_7cf53_14 : decode cJ9_floorMod_7cf53 14 = .ok (.iload_n 2, 1) := by decide +kernel
theorem dJ9_floorMod_7cf53_15 : decode cJ9_floorMod_7cf53 15 = .ok (.iload_n 1, 1) := by decide +kernel
theorem dJ9_floorMod_7cf53_16 : decode cJ9_floorMod_7cf53 16 = .ok (.iadd, 1) := by decide +kernel
theorem dJ9_floorMod_7cf53_17 : decode cJ9_floorMod_7cf53 17 = .ok (.ireturn, 1) := by decide +kernel
theorem dJ9_floorMod_7cf53_18 : decode cJ9_floorMod_7cf53 18 = .ok (.iload_n 2, 1) := by decide +kernel
theorem dJ9_floorMod_7cf53_19 : decode cJ9_floorMod_7cf53 19 = .ok (.ireturn, 1) := by decide +kernel
theorem dJ9_max_7cf53_0 : decode cJ9_max_7cf53 0 = .ok (.iload_n 0, 1) := by decide +kernel
theorem dJ9_max_7cf53_1 : decode cJ9_max_7cf53 1 = .ok (.iload_n 1, 1) := by decide +kernel
theorem dJ9_max_7cf53_2 : decode cJ9_max_7cf53 2 = .ok (.if_icmp .lt 7, 3) := by decide +kernel
theorem dJ9_max_7cf53_5 : decode cJ9_max_7cf53 5 = .ok (.iload_n 0, 1) := by decide +kernel
theorem dJ9_max_7cf53_6 : decode cJ9_max_7cf53 6 = .ok (.goto 4, 3) := by decide +kernel
theorem dJ9_max_7cf53_9 : decode cJ9_max_7cf53 9 = .ok (.iload_n 1, 1) := by decide +kernel
theorem dJ9_max_7cf53_10 : decode cJ9_max_7cf53 10 = .ok (.ireturn, 1) := by decide +kernel
theorem dJ9_min_7cf53_0 : decode cJ9_min_7cf53 0 = .ok (.iload_n 0, 1) := by decide +kernel
theorem dJ9_min_7cf53_1 : decode cJ9_min_7cf53 1 = .ok (.iload_n 1, 1) := by decide +kernel
theorem dJ9_min_7cf53_2 : decode cJ9_min_7cf53 2 = .ok (.if_icmp .gt 7, 3) := by decide +kernel
theorem dJ9_min_7cf53_5 : decode cJ9_min_7cf53 5 = .ok (.iload_n 0, 1) := by decide +kernel
theorem dJ9_min_7cf53_6 : decode cJ9_min_7cf53 6 = .ok (.goto 4, 3) := by decide +kernel
theorem dJ9_min_7cf53_9 : decode cJ9_min_7cf53 9 = .ok (.iload_n 1, 1) := by decide +kernel
theorem dJ9_min_7cf53_10 : decode cJ9_min_7cf53 10 = .ok (.ireturn, 1) := by decide +kernel

theorem d_A_forgetAll_0 : decode b_A_forgetAll 0 = .ok (.aload_n 0, 1) := by decide +kernel
theorem d_A_forgetAll_1 : decode b_A_forgetAll 1 = .ok (.iconst 0, 1) := by decide +kernel
theorem d_A_forgetAll_2 : decode b_A_forgetAll 2 = .ok (.putfield 22, 3) := by decide +kernel
theorem d_A_forgetAll_5 : decode b_A_forgetAll 5 = .ok (.return_, 1) := by decide +kernel
theorem d_A_init_0 : decode b_A_init 0 = .ok (.aload_n 0, 1) := by decide +kernel
theorem d_A_init_1 : decode b_A_init 1 = .ok (.invokespecial 3, 3) := by decide +kernel
theorem d_A_init_4 : decode b_A_init 4 = .ok (.aload_n 0, 1) := by decide +kernel
theorem d_A_init_5 : decode b_A_init 5 = .ok (.bipush 24, 2) := by decide +kernel
theorem d_A_init_7 : decode b_A_init 7 = .ok (.anewarray 9, 3) := by decide +kernel
theorem d_A_init_10 : decode b_A_init 10 = .ok (.putfield 11, 3) := by decide +kernel
theorem d_A_init_13 : decode b_A_init 13 = .ok (.iconst 0, 1) := by decide +kernel
theorem d_A_init_14 : decode b_A_init 14 = .ok (.istore_n 1, 1) := by decide +kernel
theorem d_A_init_15 : decode b_A_init 15 = .ok (.iload_n 1, 1) := by decide +kernel
theorem d_A_init_16 : decode b_A_init 16 = .ok (.aload_n 0, 1) := by decide +kernel
theorem d_A_init_17 : decode b_A_init 17 = .ok (.getfield 11, 3) := by decide +kernel
theorem d_A_init_20 : decode b_A_init 20 = .ok (.arraylength, 1) := by decide +kernel
theorem d_A_init_21 : decode b_A_init 21 = .ok (.if_icmp .ge 22, 3) := by decide +kernel
theorem d_A_init_24 : decode b_A_init 24 = .ok (.aload_n 0, 1) := by decide +kernel
theorem d_A_init_25 : decode b_A_init 25 = .ok (.getfield 11, 3) := by decide +kernel
theorem d_A_init_28 : decode b_A_init 28 = .ok (.iload_n 1, 1) := by decide +kernel
theorem d_A_init_29 : decode b_A_init 29 = .ok (.new 9, 3) := by decide +kernel
theorem d_A_init_32 : decode b_A_init 32 = .ok (.dup, 1) := by decide +kernel
theorem d_A_init_33 : decode b_A_init 33 = .ok (.invokespecial 17, 3) := by decide +kernel
theorem d_A_init_36 : decode b_A_init 36 = .ok (.aastore, 1) := by decide +kernel
theorem d_A_init_37 : decode b_A_init 37 = .ok (.iinc 1 1, 3) := by decide +kernel
theorem d_A_init_40 : decode b_A_init 40 = .ok (.goto (-25), 3) := by decide +kernel
theorem d_A_init_43 : decode b_A_init 43 = .ok (.return_, 1) := by decide +kernel
theorem d_A_keep_0 : decode b_A_keep 0 = .ok (.aload_n 0, 1) := by decide +kernel
theorem d_A_keep_1 : decode b_A_keep 1 = .ok (.getfield 11, 3) := by decide +kernel
theorem d_A_keep_4 : decode b_A_keep 4 = .ok (.aload_n 0, 1) := by decide +kernel
theorem d_A_keep_5 : decode b_A_keep 5 = .ok (.getfield 18, 3) := by decide +kernel
theorem d_A_keep_8 : decode b_A_keep 8 = .ok (.aload_n 0, 1) := by decide +kernel
theorem d_A_keep_9 : decode b_A_keep 9 = .ok (.getfield 22, 3) := by decide +kernel
theorem d_A_keep_12 : decode b_A_keep 12 = .ok (.iadd, 1) := by decide +kernel
theorem d_A_keep_13 : decode b_A_keep 13 = .ok (.bipush 24, 2) := by decide +kernel
theorem d_A_keep_15 : decode b_A_keep 15 = .ok (.irem, 1) := by decide +kernel
theorem d_A_keep_16 : decode b_A_keep 16 = .ok (.aaload, 1) := by decide +kernel
theorem d_A_keep_17 : decode b_A_keep 17 = .ok (.aload_n 1, 1) := by decide +kernel
theorem d_A_keep_18 : decode b_A_keep 18 = .ok (.invokevirtual 25, 3) := by decide +kernel
theorem d_A_keep_21 : decode b_A_keep 21 = .ok (.aload_n 0, 1) := by decide +kernel
theorem d_A_keep_22 : decode b_A_keep 22 = .ok (.getfield 22, 3) := by decide +kernel
theorem d_A_keep_25 : decode b_A_keep 25 = .ok (.bipush 24, 2) := by decide +kernel
theorem d_A_keep_27 : decode b_A_keep 27 = .ok (.if_icmp .ge 16, 3) := by decide +kernel
theorem d_A_keep_30 : decode b_A_keep 30 = .ok (.aload_n 0, 1) := by decide +kernel
theorem d_A_keep_31 : decode b_A_keep 31 = .ok (.dup, 1) := by decide +kernel
theorem d_A_keep_32 : decode b_A_keep 32 = .ok (.getfield 22, 3) := by decide +kernel
theorem d_A_keep_35 : decode b_A_keep 35 = .ok (.iconst 1, 1) := by decide +kernel
theorem d_A_keep_36 : decode b_A_keep 36 = .ok (.iadd, 1) := by decide +kernel
theorem d_A_keep_37 : decode b_A_keep 37 = .ok (.putfield 22, 3) := by decide +kernel
theorem d_A_keep_40 : decode b_A_keep 40 = .ok (.goto 16, 3) := by decide +kernel
theorem d_A_keep_43 : decode b_A_keep 43 = .ok (.aload_n 0, 1) := by decide +kernel
theorem d_A_keep_44 : decode b_A_keep 44 = .ok (.aload_n 0, 1) := by decide +kernel
theorem d_A_keep_45 : decode b_A_keep 45 = .ok (.getfield 18, 3) := by decide +kernel
theorem d_A_keep_48 : decode b_A_keep 48 = .ok (.iconst 1, 1) := by decide +kernel
theorem d_A_keep_49 : decode b_A_keep 49 = .ok (.iadd, 1) := by decide +kernel
theorem d_A_keep_50 : decode b_A_keep 50 = .ok (.bipush 24, 2) := by decide +kernel
theorem d_A_keep_52 : decode b_A_keep 52 = .ok (.irem, 1) := by decide +kernel
theorem d_A_keep_53 : decode b_A_keep 53 = .ok (.putfield 18, 3) := by decide +kernel
theorem d_A_keep_56 : decode b_A_keep 56 = .ok (.return_, 1) := by decide +kernel
theorem d_A_takeBack_0 : decode b_A_takeBack 0 = .ok (.aload_n 0, 1) := by decide +kernel
theorem d_A_takeBack_1 : decode b_A_takeBack 1 = .ok (.getfield 22, 3) := by decide +kernel
theorem d_A_takeBack_4 : decode b_A_takeBack 4 = .ok (.iconst 1, 1) := by decide +kernel
theorem d_A_takeBack_5 : decode b_A_takeBack 5 = .ok (.if_icmp .ge 5, 3) := by decide +kernel
theorem d_A_takeBack_8 : decode b_A_takeBack 8 = .ok (.iconst 0, 1) := by decide +kernel
theorem d_A_takeBack_9 : decode b_A_takeBack 9 = .ok (.ireturn, 1) := by decide +kernel
theorem d_A_takeBack_10 : decode b_A_takeBack 10 = .ok (.aload_n 0, 1) := by decide +kernel
theorem d_A_takeBack_11 : decode b_A_takeBack 11 = .ok (.dup, 1) := by decide +kernel
theorem d_A_takeBack_12 : decode b_A_takeBack 12 = .ok (.getfield 22, 3) := by decide +kernel
theorem d_A_takeBack_15 : decode b_A_takeBack 15 = .ok (.iconst 1, 1) := by decide +kernel
theorem d_A_takeBack_16 : decode b_A_takeBack 16 = .ok (.isub, 1) := by decide +kernel
theorem d_A_takeBack_17 : decode b_A_takeBack 17 = .ok (.putfield 22, 3) := by decide +kernel
theorem d_A_takeBack_20 : decode b_A_takeBack 20 = .ok (.aload_n 1, 1) := by decide +kernel
theorem d_A_takeBack_21 : decode b_A_takeBack 21 = .ok (.aload_n 0, 1) := by decide +kernel
theorem d_A_takeBack_22 : decode b_A_takeBack 22 = .ok (.getfield 11, 3) := by decide +kernel
theorem d_A_takeBack_25 : decode b_A_takeBack 25 = .ok (.aload_n 0, 1) := by decide +kernel
theorem d_A_takeBack_26 : decode b_A_takeBack 26 = .ok (.getfield 18, 3) := by decide +kernel
theorem d_A_takeBack_29 : decode b_A_takeBack 29 = .ok (.aload_n 0, 1) := by decide +kernel
theorem d_A_takeBack_30 : decode b_A_takeBack 30 = .ok (.getfield 22, 3) := by decide +kernel
theorem d_A_takeBack_33 : decode b_A_takeBack 33 = .ok (.iadd, 1) := by decide +kernel
theorem d_A_takeBack_34 : decode b_A_takeBack 34 = .ok (.bipush 24, 2) := by decide +kernel
theorem d_A_takeBack_36 : decode b_A_takeBack 36 = .ok (.irem, 1) := by decide +kernel
theorem d_A_takeBack_37 : decode b_A_takeBack 37 = .ok (.aaload, 1) := by decide +kernel
theorem d_A_takeBack_38 : decode b_A_takeBack 38 = .ok (.invokevirtual 25, 3) := by decide +kernel
theorem d_A_takeBack_41 : decode b_A_takeBack 41 = .ok (.iconst 1, 1) := by decide +kernel
theorem d_A_takeBack_42 : decode b_A_takeBack 42 = .ok (.ireturn, 1) := by decide +kernel
theorem d_H_answerOne_0 : decode b_H_answerOne 0 = .ok (.aload_n 0, 1) := by decide +kernel
theorem d_H_answerOne_1 : decode b_H_answerOne 1 = .ok (.iload_n 1, 1) := by decide +kernel
theorem d_H_answerOne_2 : decode b_H_answerOne 2 = .ok (.invokevirtual 49, 3) := by decide +kernel
theorem d_H_answerOne_5 : decode b_H_answerOne 5 = .ok (.ifCond .eq 19, 3) := by decide +kernel
theorem d_H_answerOne_8 : decode b_H_answerOne 8 = .ok (.aload_n 0, 1) := by decide +kernel
theorem d_H_answerOne_9 : decode b_H_answerOne 9 = .ok (.iload_n 1, 1) := by decide +kernel
theorem d_H_answerOne_10 : decode b_H_answerOne 10 = .ok (.aload_n 0, 1) := by decide +kernel
theorem d_H_answerOne_11 : decode b_H_answerOne 11 = .ok (.getfield 11, 3) := by decide +kernel
theorem d_H_answerOne_14 : decode b_H_answerOne 14 = .ok (.iload_n 1, 1) := by decide +kernel
theorem d_H_answerOne_15 : decode b_H_answerOne 15 = .ok (.aaload, 1) := by decide +kernel
theorem d_H_answerOne_16 : decode b_H_answerOne 16 = .ok (.getfield 87, 3) := by decide +kernel
theorem d_H_answerOne_19 : decode b_H_answerOne 19 = .ok (.iconst 2, 1) := by decide +kernel
theorem d_H_answerOne_20 : decode b_H_answerOne 20 = .ok (.idiv, 1) := by decide +kernel
theorem d_H_answerOne_21 : decode b_H_answerOne 21 = .ok (.invokevirtual 90, 3) := by decide +kernel
theorem d_H_answerOne_24 : decode b_H_answerOne 24 = .ok (.return_, 1) := by decide +kernel
theorem d_H_become_0 : decode b_H_become 0 = .ok (.aload_n 0, 1) := by decide +kernel
theorem d_H_become_1 : decode b_H_become 1 = .ok (.aload_n 1, 1) := by decide +kernel
theorem d_H_become_2 : decode b_H_become 2 = .ok (.getfield 18, 3) := by decide +kernel
theorem d_H_become_5 : decode b_H_become 5 = .ok (.putfield 18, 3) := by decide +kernel
theorem d_H_become_8 : decode b_H_become 8 = .ok (.aload_n 0, 1) := by decide +kernel
theorem d_H_become_9 : decode b_H_become 9 = .ok (.aload_n 1, 1) := by decide +kernel
theorem d_H_become_10 : decode b_H_become 10 = .ok (.getfield 22, 3) := by decide +kernel
theorem d_H_become_13 : decode b_H_become 13 = .ok (.putfield 22, 3) := by decide +kernel
theorem d_H_become_16 : decode b_H_become 16 = .ok (.aload_n 0, 1) := by decide +kernel
theorem d_H_become_17 : decode b_H_become 17 = .ok (.aload_n 1, 1) := by decide +kernel
theorem d_H_become_18 : decode b_H_become 18 = .ok (.getfield 26, 3) := by decide +kernel
theorem d_H_become_21 : decode b_H_become 21 = .ok (.putfield 26, 3) := by decide +kernel
theorem d_H_become_24 : decode b_H_become 24 = .ok (.aload_n 0, 1) := by decide +kernel
theorem d_H_become_25 : decode b_H_become 25 = .ok (.aload_n 1, 1) := by decide +kernel
theorem d_H_become_26 : decode b_H_become 26 = .ok (.getfield 29, 3) := by decide +kernel
theorem d_H_become_29 : decode b_H_become 29 = .ok (.putfield 29, 3) := by decide +kernel
theorem d_H_become_32 : decode b_H_become 32 = .ok (.aload_n 0, 1) := by decide +kernel
theorem d_H_become_33 : decode b_H_become 33 = .ok (.aload_n 1, 1) := by decide +kernel
theorem d_H_become_34 : decode b_H_become 34 = .ok (.getfield 32, 3) := by decide +kernel
theorem d_H_become_37 : decode b_H_become 37 = .ok (.putfield 32, 3) := by decide +kernel
theorem d_H_become_40 : decode b_H_become 40 = .ok (.aload_n 0, 1) := by decide +kernel
theorem d_H_become_41 : decode b_H_become 41 = .ok (.aload_n 1, 1) := by decide +kernel
theorem d_H_become_42 : decode b_H_become 42 = .ok (.getfield 35, 3) := by decide +kernel
theorem d_H_become_45 : decode b_H_become 45 = .ok (.putfield 35, 3) := by decide +kernel
theorem d_H_become_48 : decode b_H_become 48 = .ok (.aload_n 0, 1) := by decide +kernel
theorem d_H_become_49 : decode b_H_become 49 = .ok (.aload_n 1, 1) := by decide +kernel
theorem d_H_become_50 : decode b_H_become 50 = .ok (.getfield 38, 3) := by decide +kernel
theorem d_H_become_53 : decode b_H_become 53 = .ok (.putfield 38, 3) := by decide +kernel
theorem d_H_become_56 : decode b_H_become 56 = .ok (.iconst 0, 1) := by decide +kernel
theorem d_H_become_57 : decode b_H_become 57 = .ok (.istore_n 2, 1) := by decide +kernel
theorem d_H_become_58 : decode b_H_become 58 = .ok (.iload_n 2, 1) := by decide +kernel
theorem d_H_become_59 : decode b_H_become 59 = .ok (.aload_n 0, 1) := by decide +kernel
theorem d_H_become_60 : decode b_H_become 60 = .ok (.getfield 22, 3) := by decide +kernel
theorem d_H_become_63 : decode b_H_become 63 = .ok (.if_icmp .ge 24, 3) := by decide +kernel
theorem d_H_become_66 : decode b_H_become 66 = .ok (.aload_n 0, 1) := by decide +kernel
theorem d_H_become_67 : decode b_H_become 67 = .ok (.getfield 11, 3) := by decide +kernel
theorem d_H_become_70 : decode b_H_become 70 = .ok (.iload_n 2, 1) := by decide +kernel
theorem d_H_become_71 : decode b_H_become 71 = .ok (.aaload, 1) := by decide +kernel
theorem d_H_become_72 : decode b_H_become 72 = .ok (.aload_n 1, 1) := by decide +kernel
theorem d_H_become_73 : decode b_H_become 73 = .ok (.getfield 11, 3) := by decide +kernel
theorem d_H_become_76 : decode b_H_become 76 = .ok (.iload_n 2, 1) := by decide +kernel
theorem d_H_become_77 : decode b_H_become 77 = .ok (.aaload, 1) := by decide +kernel
theorem d_H_become_78 : decode b_H_become 78 = .ok (.invokevirtual 41, 3) := by decide +kernel
theorem d_H_become_81 : decode b_H_become 81 = .ok (.iinc 2 1, 3) := by decide +kernel
theorem d_H_become_84 : decode b_H_become 84 = .ok (.goto (-26), 3) := by decide +kernel
theorem d_H_become_87 : decode b_H_become 87 = .ok (.return_, 1) := by decide +kernel
theorem d_H_clear_0 : decode b_H_clear 0 = .ok (.aload_n 0, 1) := by decide +kernel
theorem d_H_clear_1 : decode b_H_clear 1 = .ok (.iconst 0, 1) := by decide +kernel
theorem d_H_clear_2 : decode b_H_clear 2 = .ok (.putfield 18, 3) := by decide +kernel
theorem d_H_clear_5 : decode b_H_clear 5 = .ok (.aload_n 0, 1) := by decide +kernel
theorem d_H_clear_6 : decode b_H_clear 6 = .ok (.iconst 0, 1) := by decide +kernel
theorem d_H_clear_7 : decode b_H_clear 7 = .ok (.putfield 22, 3) := by decide +kernel
theorem d_H_clear_10 : decode b_H_clear 10 = .ok (.aload_n 0, 1) := by decide +kernel
theorem d_H_clear_11 : decode b_H_clear 11 = .ok (.iconst 0, 1) := by decide +kernel
theorem d_H_clear_12 : decode b_H_clear 12 = .ok (.putfield 26, 3) := by decide +kernel
theorem d_H_clear_15 : decode b_H_clear 15 = .ok (.aload_n 0, 1) := by decide +kernel
theorem d_H_clear_16 : decode b_H_clear 16 = .ok (.iconst 0, 1) := by decide +kernel
theorem d_H_clear_17 : decode b_H_clear 17 = .ok (.putfield 29, 3) := by decide +kernel
theorem d_H_clear_20 : decode b_H_clear 20 = .ok (.aload_n 0, 1) := by decide +kernel
theorem d_H_clear_21 : decode b_H_clear 21 = .ok (.iconst 0, 1) := by decide +kernel
theorem d_H_clear_22 : decode b_H_clear 22 = .ok (.putfield 32, 3) := by decide +kernel
theorem d_H_clear_25 : decode b_H_clear 25 = .ok (.aload_n 0, 1) := by decide +kernel
theorem d_H_clear_26 : decode b_H_clear 26 = .ok (.iconst 0, 1) := by decide +kernel
theorem d_H_clear_27 : decode b_H_clear 27 = .ok (.putfield 35, 3) := by decide +kernel
theorem d_H_clear_30 : decode b_H_clear 30 = .ok (.aload_n 0, 1) := by decide +kernel
theorem d_H_clear_31 : decode b_H_clear 31 = .ok (.iconst 0, 1) := by decide +kernel
theorem d_H_clear_32 : decode b_H_clear 32 = .ok (.putfield 38, 3) := by decide +kernel
theorem d_H_clear_35 : decode b_H_clear 35 = .ok (.return_, 1) := by decide +kernel
theorem d_H_hasLetter_0 : decode b_H_hasLetter 0 = .ok (.iload_n 1, 1) := by decide +kernel
theorem d_H_hasLetter_1 : decode b_H_hasLetter 1 = .ok (.ifCond .lt 15, 3) := by decide +kernel
theorem d_H_hasLetter_4 : decode b_H_hasLetter 4 = .ok (.iload_n 1, 1) := by decide +kernel
theorem d_H_hasLetter_5 : decode b_H_hasLetter 5 = .ok (.aload_n 0, 1) := by decide +kernel
theorem d_H_hasLetter_6 : decode b_H_hasLetter 6 = .ok (.getfield 22, 3) := by decide +kernel
theorem d_H_hasLetter_9 : decode b_H_hasLetter 9 = .ok (.if_icmp .ge 7, 3) := by decide +kernel
theorem d_H_hasLetter_12 : decode b_H_hasLetter 12 = .ok (.iconst 1, 1) := by decide +kernel
theorem d_H_hasLetter_13 : decode b_H_hasLetter 13 = .ok (.goto 4, 3) := by decide +kernel
theorem d_H_hasLetter_16 : decode b_H_hasLetter 16 = .ok (.iconst 0, 1) := by decide +kernel
theorem d_H_hasLetter_17 : decode b_H_hasLetter 17 = .ok (.ireturn, 1) := by decide +kernel
theorem d_H_init_0 : decode b_H_init 0 = .ok (.aload_n 0, 1) := by decide +kernel
theorem d_H_init_1 : decode b_H_init 1 = .ok (.invokespecial 3, 3) := by decide +kernel
theorem d_H_init_4 : decode b_H_init 4 = .ok (.aload_n 0, 1) := by decide +kernel
theorem d_H_init_5 : decode b_H_init 5 = .ok (.bipush 6, 2) := by decide +kernel
theorem d_H_init_7 : decode b_H_init 7 = .ok (.anewarray 9, 3) := by decide +kernel
theorem d_H_init_10 : decode b_H_init 10 = .ok (.putfield 11, 3) := by decide +kernel
theorem d_H_init_13 : decode b_H_init 13 = .ok (.iconst 0, 1) := by decide +kernel
theorem d_H_init_14 : decode b_H_init 14 = .ok (.istore_n 1, 1) := by decide +kernel
theorem d_H_init_15 : decode b_H_init 15 = .ok (.iload_n 1, 1) := by decide +kernel
theorem d_H_init_16 : decode b_H_init 16 = .ok (.aload_n 0, 1) := by decide +kernel
theorem d_H_init_17 : decode b_H_init 17 = .ok (.getfield 11, 3) := by decide +kernel
theorem d_H_init_20 : decode b_H_init 20 = .ok (.arraylength, 1) := by decide +kernel
theorem d_H_init_21 : decode b_H_init 21 = .ok (.if_icmp .ge 22, 3) := by decide +kernel
theorem d_H_init_24 : decode b_H_init 24 = .ok (.aload_n 0, 1) := by decide +kernel
theorem d_H_init_25 : decode b_H_init 25 = .ok (.getfield 11, 3) := by decide +kernel
theorem d_H_init_28 : decode b_H_init 28 = .ok (.iload_n 1, 1) := by decide +kernel
theorem d_H_init_29 : decode b_H_init 29 = .ok (.new 9, 3) := by decide +kernel
theorem d_H_init_32 : decode b_H_init 32 = .ok (.dup, 1) := by decide +kernel
theorem d_H_init_33 : decode b_H_init 33 = .ok (.invokespecial 17, 3) := by decide +kernel
theorem d_H_init_36 : decode b_H_init 36 = .ok (.aastore, 1) := by decide +kernel
theorem d_H_init_37 : decode b_H_init 37 = .ok (.iinc 1 1, 3) := by decide +kernel
theorem d_H_init_40 : decode b_H_init 40 = .ok (.goto (-25), 3) := by decide +kernel
theorem d_H_init_43 : decode b_H_init 43 = .ok (.return_, 1) := by decide +kernel
theorem d_H_isBehind_0 : decode b_H_isBehind 0 = .ok (.aload_n 0, 1) := by decide +kernel
theorem d_H_isBehind_1 : decode b_H_isBehind 1 = .ok (.iload_n 1, 1) := by decide +kernel
theorem d_H_isBehind_2 : decode b_H_isBehind 2 = .ok (.invokevirtual 45, 3) := by decide +kernel
theorem d_H_isBehind_5 : decode b_H_isBehind 5 = .ok (.ifCond .eq 19, 3) := by decide +kernel
theorem d_H_isBehind_8 : decode b_H_isBehind 8 = .ok (.aload_n 0, 1) := by decide +kernel
theorem d_H_isBehind_9 : decode b_H_isBehind 9 = .ok (.getfield 29, 3) := by decide +kernel
theorem d_H_isBehind_12 : decode b_H_isBehind 12 = .ok (.iload_n 1, 1) := by decide +kernel
theorem d_H_isBehind_13 : decode b_H_isBehind 13 = .ok (.ishr, 1) := by decide +kernel
theorem d_H_isBehind_14 : decode b_H_isBehind 14 = .ok (.iconst 1, 1) := by decide +kernel
theorem d_H_isBehind_15 : decode b_H_isBehind 15 = .ok (.iand, 1) := by decide +kernel
theorem d_H_isBehind_16 : decode b_H_isBehind 16 = .ok (.iconst 1, 1) := by decide +kernel
theorem d_H_isBehind_17 : decode b_H_isBehind 17 = .ok (.if_icmp .ne 7, 3) := by decide +kernel
theorem d_H_isBehind_20 : decode b_H_isBehind 20 = .ok (.iconst 1, 1) := by decide +kernel
theorem d_H_isBehind_21 : decode b_H_isBehind 21 = .ok (.goto 4, 3) := by decide +kernel
theorem d_H_isBehind_24 : decode b_H_isBehind 24 = .ok (.iconst 0, 1) := by decide +kernel
theorem d_H_isBehind_25 : decode b_H_isBehind 25 = .ok (.ireturn, 1) := by decide +kernel
theorem d_H_nextToFall_0 : decode b_H_nextToFall 0 = .ok (.ldc 80, 2) := by decide +kernel
theorem d_H_nextToFall_2 : decode b_H_nextToFall 2 = .ok (.istore_n 1, 1) := by decide +kernel
theorem d_H_nextToFall_3 : decode b_H_nextToFall 3 = .ok (.iconst 0, 1) := by decide +kernel
theorem d_H_nextToFall_4 : decode b_H_nextToFall 4 = .ok (.istore_n 2, 1) := by decide +kernel
theorem d_H_nextToFall_5 : decode b_H_nextToFall 5 = .ok (.iload_n 2, 1) := by decide +kernel
theorem d_H_nextToFall_6 : decode b_H_nextToFall 6 = .ok (.aload_n 0, 1) := by decide +kernel
theorem d_H_nextToFall_7 : decode b_H_nextToFall 7 = .ok (.getfield 22, 3) := by decide +kernel
theorem d_H_nextToFall_10 : decode b_H_nextToFall 10 = .ok (.if_icmp .ge 45, 3) := by decide +kernel
theorem d_H_nextToFall_13 : decode b_H_nextToFall 13 = .ok (.aload_n 0, 1) := by decide +kernel
theorem d_H_nextToFall_14 : decode b_H_nextToFall 14 = .ok (.iload_n 2, 1) := by decide +kernel
theorem d_H_nextToFall_15 : decode b_H_nextToFall 15 = .ok (.invokevirtual 49, 3) := by decide +kernel
theorem d_H_nextToFall_18 : decode b_H_nextToFall 18 = .ok (.ifCond .eq 31, 3) := by decide +kernel
theorem d_H_nextToFall_21 : decode b_H_nextToFall 21 = .ok (.aload_n 0, 1) := by decide +kernel
theorem d_H_nextToFall_22 : decode b_H_nextToFall 22 = .ok (.iload_n 1, 1) := by decide +kernel
theorem d_H_nextToFall_23 : decode b_H_nextToFall 23 = .ok (.invokevirtual 45, 3) := by decide +kernel
theorem d_H_nextToFall_26 : decode b_H_nextToFall 26 = .ok (.ifCond .eq 21, 3) := by decide +kernel
theorem d_H_nextToFall_29 : decode b_H_nextToFall 29 = .ok (.aload_n 0, 1) := by decide +kernel
theorem d_H_nextToFall_30 : decode b_H_nextToFall 30 = .ok (.getfield 11, 3) := by decide +kernel
theorem d_H_nextToFall_33 : decode b_H_nextToFall 33 = .ok (.iload_n 2, 1) := by decide +kernel
theorem d_H_nextToFall_34 : decode b_H_nextToFall 34 = .ok (.aaload, 1) := by decide +kernel
theorem d_H_nextToFall_35 : decode b_H_nextToFall 35 = .ok (.aload_n 0, 1) := by decide +kernel
theorem d_H_nextToFall_36 : decode b_H_nextToFall 36 = .ok (.getfield 11, 3) := by decide +kernel
theorem d_H_nextToFall_39 : decode b_H_nextToFall 39 = .ok (.iload_n 1, 1) := by decide +kernel
theorem d_H_nextToFall_40 : decode b_H_nextToFall 40 = .ok (.aaload, 1) := by decide +kernel
theorem d_H_nextToFall_41 : decode b_H_nextToFall 41 = .ok (.invokevirtual 94, 3) := by decide +kernel
theorem d_H_nextToFall_44 : decode b_H_nextToFall 44 = .ok (.ifCond .eq 5, 3) := by decide +kernel
theorem d_H_nextToFall_47 : decode b_H_nextToFall 47 = .ok (.iload_n 2, 1) := by decide +kernel
theorem d_H_nextToFall_48 : decode b_H_nextToFall 48 = .ok (.istore_n 1, 1) := by decide +kernel
theorem d_H_nextToFall_49 : decode b_H_nextToFall 49 = .ok (.iinc 2 1, 3) := by decide +kernel
theorem d_H_nextToFall_52 : decode b_H_nextToFall 52 = .ok (.goto (-47), 3) := by decide +kernel
theorem d_H_nextToFall_55 : decode b_H_nextToFall 55 = .ok (.iload_n 1, 1) := by decide +kernel
theorem d_H_nextToFall_56 : decode b_H_nextToFall 56 = .ok (.ireturn, 1) := by decide +kernel
theorem d_H_passDay_0 : decode b_H_passDay 0 = .ok (.aload_n 0, 1) := by decide +kernel
theorem d_H_passDay_1 : decode b_H_passDay 1 = .ok (.sipush 9999, 3) := by decide +kernel
theorem d_H_passDay_4 : decode b_H_passDay 4 = .ok (.aload_n 0, 1) := by decide +kernel
theorem d_H_passDay_5 : decode b_H_passDay 5 = .ok (.getfield 35, 3) := by decide +kernel
theorem d_H_passDay_8 : decode b_H_passDay 8 = .ok (.aload_n 0, 1) := by decide +kernel
theorem d_H_passDay_9 : decode b_H_passDay 9 = .ok (.invokevirtual 67, 3) := by decide +kernel
theorem d_H_passDay_12 : decode b_H_passDay 12 = .ok (.iadd, 1) := by decide +kernel
theorem d_H_passDay_13 : decode b_H_passDay 13 = .ok (.invokestatic 71, 3) := by decide +kernel
theorem d_H_passDay_16 : decode b_H_passDay 16 = .ok (.putfield 35, 3) := by decide +kernel
theorem d_H_passDay_19 : decode b_H_passDay 19 = .ok (.iconst 0, 1) := by decide +kernel
theorem d_H_passDay_20 : decode b_H_passDay 20 = .ok (.istore_n 1, 1) := by decide +kernel
theorem d_H_passDay_21 : decode b_H_passDay 21 = .ok (.iload_n 1, 1) := by decide +kernel
theorem d_H_passDay_22 : decode b_H_passDay 22 = .ok (.aload_n 0, 1) := by decide +kernel
theorem d_H_passDay_23 : decode b_H_passDay 23 = .ok (.getfield 22, 3) := by decide +kernel
theorem d_H_passDay_26 : decode b_H_passDay 26 = .ok (.if_icmp .ge 42, 3) := by decide +kernel
theorem d_H_passDay_29 : decode b_H_passDay 29 = .ok (.aload_n 0, 1) := by decide +kernel
theorem d_H_passDay_30 : decode b_H_passDay 30 = .ok (.iload_n 1, 1) := by decide +kernel
theorem d_H_passDay_31 : decode b_H_passDay 31 = .ok (.invokevirtual 49, 3) := by decide +kernel
theorem d_H_passDay_34 : decode b_H_passDay 34 = .ok (.ifCond .eq 28, 3) := by decide +kernel
theorem d_H_passDay_37 : decode b_H_passDay 37 = .ok (.aload_n 0, 1) := by decide +kernel
theorem d_H_passDay_38 : decode b_H_passDay 38 = .ok (.getfield 11, 3) := by decide +kernel
theorem d_H_passDay_41 : decode b_H_passDay 41 = .ok (.iload_n 1, 1) := by decide +kernel
theorem d_H_passDay_42 : decode b_H_passDay 42 = .ok (.aaload, 1) := by decide +kernel
theorem d_H_passDay_43 : decode b_H_passDay 43 = .ok (.bipush 99, 2) := by decide +kernel
theorem d_H_passDay_45 : decode b_H_passDay 45 = .ok (.aload_n 0, 1) := by decide +kernel
theorem d_H_passDay_46 : decode b_H_passDay 46 = .ok (.getfield 11, 3) := by decide +kernel
theorem d_H_passDay_49 : decode b_H_passDay 49 = .ok (.iload_n 1, 1) := by decide +kernel
theorem d_H_passDay_50 : decode b_H_passDay 50 = .ok (.aaload, 1) := by decide +kernel
theorem d_H_passDay_51 : decode b_H_passDay 51 = .ok (.getfield 77, 3) := by decide +kernel
theorem d_H_passDay_54 : decode b_H_passDay 54 = .ok (.iconst 1, 1) := by decide +kernel
theorem d_H_passDay_55 : decode b_H_passDay 55 = .ok (.iadd, 1) := by decide +kernel
theorem d_H_passDay_56 : decode b_H_passDay 56 = .ok (.invokestatic 71, 3) := by decide +kernel
theorem d_H_passDay_59 : decode b_H_passDay 59 = .ok (.putfield 77, 3) := by decide +kernel
theorem d_H_passDay_62 : decode b_H_passDay 62 = .ok (.iinc 1 1, 3) := by decide +kernel
theorem d_H_passDay_65 : decode b_H_passDay 65 = .ok (.goto (-44), 3) := by decide +kernel
theorem d_H_passDay_68 : decode b_H_passDay 68 = .ok (.aload_n 0, 1) := by decide +kernel
theorem d_H_passDay_69 : decode b_H_passDay 69 = .ok (.dup, 1) := by decide +kernel
theorem d_H_passDay_70 : decode b_H_passDay 70 = .ok (.getfield 32, 3) := by decide +kernel
theorem d_H_passDay_73 : decode b_H_passDay 73 = .ok (.iconst 1, 1) := by decide +kernel
theorem d_H_passDay_74 : decode b_H_passDay 74 = .ok (.iadd, 1) := by decide +kernel
theorem d_H_passDay_75 : decode b_H_passDay 75 = .ok (.putfield 32, 3) := by decide +kernel
theorem d_H_passDay_78 : decode b_H_passDay 78 = .ok (.ldc 80, 2) := by decide +kernel
theorem d_H_passDay_80 : decode b_H_passDay 80 = .ok (.istore_n 1, 1) := by decide +kernel
theorem d_H_passDay_81 : decode b_H_passDay 81 = .ok (.iconst 0, 1) := by decide +kernel
theorem d_H_passDay_82 : decode b_H_passDay 82 = .ok (.istore_n 2, 1) := by decide +kernel
theorem d_H_passDay_83 : decode b_H_passDay 83 = .ok (.iload_n 2, 1) := by decide +kernel
theorem d_H_passDay_84 : decode b_H_passDay 84 = .ok (.aload_n 0, 1) := by decide +kernel
theorem d_H_passDay_85 : decode b_H_passDay 85 = .ok (.getfield 22, 3) := by decide +kernel
theorem d_H_passDay_88 : decode b_H_passDay 88 = .ok (.if_icmp .ge 59, 3) := by decide +kernel
theorem d_H_passDay_91 : decode b_H_passDay 91 = .ok (.aload_n 0, 1) := by decide +kernel
theorem d_H_passDay_92 : decode b_H_passDay 92 = .ok (.invokevirtual 81, 3) := by decide +kernel
theorem d_H_passDay_95 : decode b_H_passDay 95 = .ok (.aload_n 0, 1) := by decide +kernel
theorem d_H_passDay_96 : decode b_H_passDay 96 = .ok (.getfield 26, 3) := by decide +kernel
theorem d_H_passDay_99 : decode b_H_passDay 99 = .ok (.if_icmp .le 48, 3) := by decide +kernel
theorem d_H_passDay_102 : decode b_H_passDay 102 = .ok (.aload_n 0, 1) := by decide +kernel
theorem d_H_passDay_103 : decode b_H_passDay 103 = .ok (.invokevirtual 84, 3) := by decide +kernel
theorem d_H_passDay_106 : decode b_H_passDay 106 = .ok (.istore_n 3, 1) := by decide +kernel
theorem d_H_passDay_107 : decode b_H_passDay 107 = .ok (.aload_n 0, 1) := by decide +kernel
theorem d_H_passDay_108 : decode b_H_passDay 108 = .ok (.iload_n 3, 1) := by decide +kernel
theorem d_H_passDay_109 : decode b_H_passDay 109 = .ok (.invokevirtual 45, 3) := by decide +kernel
theorem d_H_passDay_112 : decode b_H_passDay 112 = .ok (.ifCond .eq 29, 3) := by decide +kernel
theorem d_H_passDay_115 : decode b_H_passDay 115 = .ok (.aload_n 0, 1) := by decide +kernel
theorem d_H_passDay_116 : decode b_H_passDay 116 = .ok (.iload_n 3, 1) := by decide +kernel
theorem d_H_passDay_117 : decode b_H_passDay 117 = .ok (.aload_n 0, 1) := by decide +kernel
theorem d_H_passDay_118 : decode b_H_passDay 118 = .ok (.getfield 11, 3) := by decide +kernel
theorem d_H_passDay_121 : decode b_H_passDay 121 = .ok (.iload_n 3, 1) := by decide +kernel
theorem d_H_passDay_122 : decode b_H_passDay 122 = .ok (.aaload, 1) := by decide +kernel
theorem d_H_passDay_123 : decode b_H_passDay 123 = .ok (.getfield 87, 3) := by decide +kernel
theorem d_H_passDay_126 : decode b_H_passDay 126 = .ok (.invokevirtual 90, 3) := by decide +kernel
theorem d_H_passDay_129 : decode b_H_passDay 129 = .ok (.iload_n 1, 1) := by decide +kernel
theorem d_H_passDay_130 : decode b_H_passDay 130 = .ok (.ldc 80, 2) := by decide +kernel
theorem d_H_passDay_132 : decode b_H_passDay 132 = .ok (.if_icmp .ne 7, 3) := by decide +kernel
theorem d_H_passDay_135 : decode b_H_passDay 135 = .ok (.iload_n 3, 1) := by decide +kernel
theorem d_H_passDay_136 : decode b_H_passDay 136 = .ok (.goto 4, 3) := by decide +kernel
theorem d_H_passDay_139 : decode b_H_passDay 139 = .ok (.iload_n 1, 1) := by decide +kernel
theorem d_H_passDay_140 : decode b_H_passDay 140 = .ok (.istore_n 1, 1) := by decide +kernel
theorem d_H_passDay_141 : decode b_H_passDay 141 = .ok (.iinc 2 1, 3) := by decide +kernel
theorem d_H_passDay_144 : decode b_H_passDay 144 = .ok (.goto (-61), 3) := by decide +kernel
theorem d_H_passDay_147 : decode b_H_passDay 147 = .ok (.iload_n 1, 1) := by decide +kernel
theorem d_H_passDay_148 : decode b_H_passDay 148 = .ok (.ireturn, 1) := by decide +kernel
theorem d_H_putBehind_0 : decode b_H_putBehind 0 = .ok (.aload_n 0, 1) := by decide +kernel
theorem d_H_putBehind_1 : decode b_H_putBehind 1 = .ok (.iload_n 1, 1) := by decide +kernel
theorem d_H_putBehind_2 : decode b_H_putBehind 2 = .ok (.invokevirtual 45, 3) := by decide +kernel
theorem d_H_putBehind_5 : decode b_H_putBehind 5 = .ok (.ifCond .eq 33, 3) := by decide +kernel
theorem d_H_putBehind_8 : decode b_H_putBehind 8 = .ok (.aload_n 0, 1) := by decide +kernel
theorem d_H_putBehind_9 : decode b_H_putBehind 9 = .ok (.iload_n 1, 1) := by decide +kernel
theorem d_H_putBehind_10 : decode b_H_putBehind 10 = .ok (.invokevirtual 49, 3) := by decide +kernel
theorem d_H_putBehind_13 : decode b_H_putBehind 13 = .ok (.ifCond .ne 25, 3) := by decide +kernel
theorem d_H_putBehind_16 : decode b_H_putBehind 16 = .ok (.aload_n 0, 1) := by decide +kernel
theorem d_H_putBehind_17 : decode b_H_putBehind 17 = .ok (.dup, 1) := by decide +kernel
theorem d_H_putBehind_18 : decode b_H_putBehind 18 = .ok (.getfield 29, 3) := by decide +kernel
theorem d_H_putBehind_21 : decode b_H_putBehind 21 = .ok (.iconst 1, 1) := by decide +kernel
theorem d_H_putBehind_22 : decode b_H_putBehind 22 = .ok (.iload_n 1, 1) := by decide +kernel
theorem d_H_putBehind_23 : decode b_H_putBehind 23 = .ok (.ishl, 1) := by decide +kernel
theorem d_H_putBehind_24 : decode b_H_putBehind 24 = .ok (.ior, 1) := by decide +kernel
theorem d_H_putBehind_25 : decode b_H_putBehind 25 = .ok (.putfield 29, 3) := by decide +kernel
theorem d_H_putBehind_28 : decode b_H_putBehind 28 = .ok (.aload_n 0, 1) := by decide +kernel
theorem d_H_putBehind_29 : decode b_H_putBehind 29 = .ok (.getfield 11, 3) := by decide +kernel
theorem d_H_putBehind_32 : decode b_H_putBehind 32 = .ok (.iload_n 1, 1) := by decide +kernel
theorem d_H_putBehind_33 : decode b_H_putBehind 33 = .ok (.aaload, 1) := by decide +kernel
theorem d_H_putBehind_34 : decode b_H_putBehind 34 = .ok (.iconst 0, 1) := by decide +kernel
theorem d_H_putBehind_35 : decode b_H_putBehind 35 = .ok (.putfield 77, 3) := by decide +kernel
theorem d_H_putBehind_38 : decode b_H_putBehind 38 = .ok (.return_, 1) := by decide +kernel
theorem d_H_takeAway_0 : decode b_H_takeAway 0 = .ok (.aload_n 0, 1) := by decide +kernel
theorem d_H_takeAway_1 : decode b_H_takeAway 1 = .ok (.dup, 1) := by decide +kernel
theorem d_H_takeAway_2 : decode b_H_takeAway 2 = .ok (.getfield 29, 3) := by decide +kernel
theorem d_H_takeAway_5 : decode b_H_takeAway 5 = .ok (.iconst 1, 1) := by decide +kernel
theorem d_H_takeAway_6 : decode b_H_takeAway 6 = .ok (.iload_n 1, 1) := by decide +kernel
theorem d_H_takeAway_7 : decode b_H_takeAway 7 = .ok (.ishl, 1) := by decide +kernel
theorem d_H_takeAway_8 : decode b_H_takeAway 8 = .ok (.iconst (-1), 1) := by decide +kernel
theorem d_H_takeAway_9 : decode b_H_takeAway 9 = .ok (.ixor, 1) := by decide +kernel
theorem d_H_takeAway_10 : decode b_H_takeAway 10 = .ok (.iand, 1) := by decide +kernel
theorem d_H_takeAway_11 : decode b_H_takeAway 11 = .ok (.putfield 29, 3) := by decide +kernel
theorem d_H_takeAway_14 : decode b_H_takeAway 14 = .ok (.aload_n 0, 1) := by decide +kernel
theorem d_H_takeAway_15 : decode b_H_takeAway 15 = .ok (.sipush 9999, 3) := by decide +kernel
theorem d_H_takeAway_18 : decode b_H_takeAway 18 = .ok (.aload_n 0, 1) := by decide +kernel
theorem d_H_takeAway_19 : decode b_H_takeAway 19 = .ok (.getfield 38, 3) := by decide +kernel
theorem d_H_takeAway_22 : decode b_H_takeAway 22 = .ok (.iload_n 2, 1) := by decide +kernel
theorem d_H_takeAway_23 : decode b_H_takeAway 23 = .ok (.iadd, 1) := by decide +kernel
theorem d_H_takeAway_24 : decode b_H_takeAway 24 = .ok (.invokestatic 71, 3) := by decide +kernel
theorem d_H_takeAway_27 : decode b_H_takeAway 27 = .ok (.putfield 38, 3) := by decide +kernel
theorem d_H_takeAway_30 : decode b_H_takeAway 30 = .ok (.return_, 1) := by decide +kernel
theorem d_H_takeDraw_0 : decode b_H_takeDraw 0 = .ok (.aload_n 0, 1) := by decide +kernel
theorem d_H_takeDraw_1 : decode b_H_takeDraw 1 = .ok (.getfield 22, 3) := by decide +kernel
theorem d_H_takeDraw_4 : decode b_H_takeDraw 4 = .ok (.iconst 1, 1) := by decide +kernel
theorem d_H_takeDraw_5 : decode b_H_takeDraw 5 = .ok (.if_icmp .ge 4, 3) := by decide +kernel
theorem d_H_takeDraw_8 : decode b_H_takeDraw 8 = .ok (.return_, 1) := by decide +kernel
theorem d_H_takeDraw_9 : decode b_H_takeDraw 9 = .ok (.lload_n 1, 1) := by decide +kernel
theorem d_H_takeDraw_10 : decode b_H_takeDraw 10 = .ok (.aload_n 0, 1) := by decide +kernel
theorem d_H_takeDraw_11 : decode b_H_takeDraw 11 = .ok (.getfield 22, 3) := by decide +kernel
theorem d_H_takeDraw_14 : decode b_H_takeDraw 14 = .ok (.i2l, 1) := by decide +kernel
theorem d_H_takeDraw_15 : decode b_H_takeDraw 15 = .ok (.lrem, 1) := by decide +kernel
theorem d_H_takeDraw_16 : decode b_H_takeDraw 16 = .ok (.l2i, 1) := by decide +kernel
theorem d_H_takeDraw_17 : decode b_H_takeDraw 17 = .ok (.istore_n 3, 1) := by decide +kernel
theorem d_H_takeDraw_18 : decode b_H_takeDraw 18 = .ok (.lload_n 1, 1) := by decide +kernel
theorem d_H_takeDraw_19 : decode b_H_takeDraw 19 = .ok (.ldc2_w 98, 3) := by decide +kernel
theorem d_H_takeDraw_22 : decode b_H_takeDraw 22 = .ok (.lrem, 1) := by decide +kernel
theorem d_H_takeDraw_23 : decode b_H_takeDraw 23 = .ok (.lconst 0, 1) := by decide +kernel
theorem d_H_takeDraw_24 : decode b_H_takeDraw 24 = .ok (.lcmp, 1) := by decide +kernel
theorem d_H_takeDraw_25 : decode b_H_takeDraw 25 = .ok (.ifCond .ne 11, 3) := by decide +kernel
theorem d_H_takeDraw_28 : decode b_H_takeDraw 28 = .ok (.aload_n 0, 1) := by decide +kernel
theorem d_H_takeDraw_29 : decode b_H_takeDraw 29 = .ok (.iload_n 3, 1) := by decide +kernel
theorem d_H_takeDraw_30 : decode b_H_takeDraw 30 = .ok (.invokevirtual 100, 3) := by decide +kernel
theorem d_H_takeDraw_33 : decode b_H_takeDraw 33 = .ok (.goto 18, 3) := by decide +kernel
theorem d_H_takeDraw_36 : decode b_H_takeDraw 36 = .ok (.lload_n 1, 1) := by decide +kernel
theorem d_H_takeDraw_37 : decode b_H_takeDraw 37 = .ok (.ldc2_w 98, 3) := by decide +kernel
theorem d_H_takeDraw_40 : decode b_H_takeDraw 40 = .ok (.lrem, 1) := by decide +kernel
theorem d_H_takeDraw_41 : decode b_H_takeDraw 41 = .ok (.lconst 1, 1) := by decide +kernel
theorem d_H_takeDraw_42 : decode b_H_takeDraw 42 = .ok (.lcmp, 1) := by decide +kernel
theorem d_H_takeDraw_43 : decode b_H_takeDraw 43 = .ok (.ifCond .ne 8, 3) := by decide +kernel
theorem d_H_takeDraw_46 : decode b_H_takeDraw 46 = .ok (.aload_n 0, 1) := by decide +kernel
theorem d_H_takeDraw_47 : decode b_H_takeDraw 47 = .ok (.iload_n 3, 1) := by decide +kernel
theorem d_H_takeDraw_48 : decode b_H_takeDraw 48 = .ok (.invokevirtual 104, 3) := by decide +kernel
theorem d_H_takeDraw_51 : decode b_H_takeDraw 51 = .ok (.return_, 1) := by decide +kernel
theorem d_H_thickness_0 : decode b_H_thickness 0 = .ok (.iconst 0, 1) := by decide +kernel
theorem d_H_thickness_1 : decode b_H_thickness 1 = .ok (.istore_n 1, 1) := by decide +kernel
theorem d_H_thickness_2 : decode b_H_thickness 2 = .ok (.iconst 0, 1) := by decide +kernel
theorem d_H_thickness_3 : decode b_H_thickness 3 = .ok (.istore_n 2, 1) := by decide +kernel
theorem d_H_thickness_4 : decode b_H_thickness 4 = .ok (.iload_n 2, 1) := by decide +kernel
theorem d_H_thickness_5 : decode b_H_thickness 5 = .ok (.aload_n 0, 1) := by decide +kernel
theorem d_H_thickness_6 : decode b_H_thickness 6 = .ok (.getfield 22, 3) := by decide +kernel
theorem d_H_thickness_9 : decode b_H_thickness 9 = .ok (.if_icmp .ge 33, 3) := by decide +kernel
theorem d_H_thickness_12 : decode b_H_thickness 12 = .ok (.iload_n 1, 1) := by decide +kernel
theorem d_H_thickness_13 : decode b_H_thickness 13 = .ok (.aload_n 0, 1) := by decide +kernel
theorem d_H_thickness_14 : decode b_H_thickness 14 = .ok (.iload_n 2, 1) := by decide +kernel
theorem d_H_thickness_15 : decode b_H_thickness 15 = .ok (.invokevirtual 49, 3) := by decide +kernel
theorem d_H_thickness_18 : decode b_H_thickness 18 = .ok (.ifCond .eq 15, 3) := by decide +kernel
theorem d_H_thickness_21 : decode b_H_thickness 21 = .ok (.aload_n 0, 1) := by decide +kernel
theorem d_H_thickness_22 : decode b_H_thickness 22 = .ok (.getfield 11, 3) := by decide +kernel
theorem d_H_thickness_25 : decode b_H_thickness 25 = .ok (.iload_n 2, 1) := by decide +kernel
theorem d_H_thickness_26 : decode b_H_thickness 26 = .ok (.aaload, 1) := by decide +kernel
theorem d_H_thickness_27 : decode b_H_thickness 27 = .ok (.getfield 64, 3) := by decide +kernel
theorem d_H_thickness_30 : decode b_H_thickness 30 = .ok (.goto 4, 3) := by decide +kernel
theorem d_H_thickness_33 : decode b_H_thickness 33 = .ok (.iconst 0, 1) := by decide +kernel
theorem d_H_thickness_34 : decode b_H_thickness 34 = .ok (.iadd, 1) := by decide +kernel
theorem d_H_thickness_35 : decode b_H_thickness 35 = .ok (.istore_n 1, 1) := by decide +kernel
theorem d_H_thickness_36 : decode b_H_thickness 36 = .ok (.iinc 2 1, 3) := by decide +kernel
theorem d_H_thickness_39 : decode b_H_thickness 39 = .ok (.goto (-35), 3) := by decide +kernel
theorem d_H_thickness_42 : decode b_H_thickness 42 = .ok (.iload_n 1, 1) := by decide +kernel
theorem d_H_thickness_43 : decode b_H_thickness 43 = .ok (.ireturn, 1) := by decide +kernel
theorem d_H_weight_0 : decode b_H_weight 0 = .ok (.iconst 0, 1) := by decide +kernel
theorem d_H_weight_1 : decode b_H_weight 1 = .ok (.istore_n 1, 1) := by decide +kernel
theorem d_H_weight_2 : decode b_H_weight 2 = .ok (.iconst 0, 1) := by decide +kernel
theorem d_H_weight_3 : decode b_H_weight 3 = .ok (.istore_n 2, 1) := by decide +kernel
theorem d_H_weight_4 : decode b_H_weight 4 = .ok (.iload_n 2, 1) := by decide +kernel
theorem d_H_weight_5 : decode b_H_weight 5 = .ok (.aload_n 0, 1) := by decide +kernel
theorem d_H_weight_6 : decode b_H_weight 6 = .ok (.getfield 22, 3) := by decide +kernel
theorem d_H_weight_9 : decode b_H_weight 9 = .ok (.if_icmp .ge 17, 3) := by decide +kernel
theorem d_H_weight_12 : decode b_H_weight 12 = .ok (.iload_n 1, 1) := by decide +kernel
theorem d_H_weight_13 : decode b_H_weight 13 = .ok (.aload_n 0, 1) := by decide +kernel
theorem d_H_weight_14 : decode b_H_weight 14 = .ok (.iload_n 2, 1) := by decide +kernel
theorem d_H_weight_15 : decode b_H_weight 15 = .ok (.invokevirtual 61, 3) := by decide +kernel
theorem d_H_weight_18 : decode b_H_weight 18 = .ok (.iadd, 1) := by decide +kernel
theorem d_H_weight_19 : decode b_H_weight 19 = .ok (.istore_n 1, 1) := by decide +kernel
theorem d_H_weight_20 : decode b_H_weight 20 = .ok (.iinc 2 1, 3) := by decide +kernel
theorem d_H_weight_23 : decode b_H_weight 23 = .ok (.goto (-19), 3) := by decide +kernel
theorem d_H_weight_26 : decode b_H_weight 26 = .ok (.iload_n 1, 1) := by decide +kernel
theorem d_H_weight_27 : decode b_H_weight 27 = .ok (.ireturn, 1) := by decide +kernel
theorem d_H_weightOf_0 : decode b_H_weightOf 0 = .ok (.aload_n 0, 1) := by decide +kernel
theorem d_H_weightOf_1 : decode b_H_weightOf 1 = .ok (.iload_n 1, 1) := by decide +kernel
theorem d_H_weightOf_2 : decode b_H_weightOf 2 = .ok (.invokevirtual 49, 3) := by decide +kernel
theorem d_H_weightOf_5 : decode b_H_weightOf 5 = .ok (.ifCond .eq 24, 3) := by decide +kernel
theorem d_H_weightOf_8 : decode b_H_weightOf 8 = .ok (.aload_n 0, 1) := by decide +kernel
theorem d_H_weightOf_9 : decode b_H_weightOf 9 = .ok (.getfield 11, 3) := by decide +kernel
theorem d_H_weightOf_12 : decode b_H_weightOf 12 = .ok (.iload_n 1, 1) := by decide +kernel
theorem d_H_weightOf_13 : decode b_H_weightOf 13 = .ok (.aaload, 1) := by decide +kernel
theorem d_H_weightOf_14 : decode b_H_weightOf 14 = .ok (.aload_n 0, 1) := by decide +kernel
theorem d_H_weightOf_15 : decode b_H_weightOf 15 = .ok (.getfield 29, 3) := by decide +kernel
theorem d_H_weightOf_18 : decode b_H_weightOf 18 = .ok (.invokestatic 52, 3) := by decide +kernel
theorem d_H_weightOf_21 : decode b_H_weightOf 21 = .ok (.iconst 1, 1) := by decide +kernel
theorem d_H_weightOf_22 : decode b_H_weightOf 22 = .ok (.isub, 1) := by decide +kernel
theorem d_H_weightOf_23 : decode b_H_weightOf 23 = .ok (.invokevirtual 58, 3) := by decide +kernel
theorem d_H_weightOf_26 : decode b_H_weightOf 26 = .ok (.goto 4, 3) := by decide +kernel
theorem d_H_weightOf_29 : decode b_H_weightOf 29 = .ok (.iconst 0, 1) := by decide +kernel
theorem d_H_weightOf_30 : decode b_H_weightOf 30 = .ok (.ireturn, 1) := by decide +kernel
theorem d_JA_fill_0 : decode b_JA_fill 0 = .ok (.iconst 0, 1) := by decide +kernel
theorem d_JA_fill_1 : decode b_JA_fill 1 = .ok (.istore_n 2, 1) := by decide +kernel
theorem d_JA_fill_2 : decode b_JA_fill 2 = .ok (.aload_n 0, 1) := by decide +kernel
theorem d_JA_fill_3 : decode b_JA_fill 3 = .ok (.arraylength, 1) := by decide +kernel
theorem d_JA_fill_4 : decode b_JA_fill 4 = .ok (.istore_n 3, 1) := by decide +kernel
theorem d_JA_fill_5 : decode b_JA_fill 5 = .ok (.iload_n 2, 1) := by decide +kernel
theorem d_JA_fill_6 : decode b_JA_fill 6 = .ok (.iload_n 3, 1) := by decide +kernel
theorem d_JA_fill_7 : decode b_JA_fill 7 = .ok (.if_icmp .ge 13, 3) := by decide +kernel
theorem d_JA_fill_10 : decode b_JA_fill 10 = .ok (.aload_n 0, 1) := by decide +kernel
theorem d_JA_fill_11 : decode b_JA_fill 11 = .ok (.iload_n 2, 1) := by decide +kernel
theorem d_JA_fill_12 : decode b_JA_fill 12 = .ok (.iload_n 1, 1) := by decide +kernel
theorem d_JA_fill_13 : decode b_JA_fill 13 = .ok (.iastore, 1) := by decide +kernel
theorem d_JA_fill_14 : decode b_JA_fill 14 = .ok (.iinc 2 1, 3) := by decide +kernel
theorem d_JA_fill_17 : decode b_JA_fill 17 = .ok (.goto (-12), 3) := by decide +kernel
theorem d_JA_fill_20 : decode b_JA_fill 20 = .ok (.return_, 1) := by decide +kernel
theorem d_JI_bitCount_0 : decode b_JI_bitCount 0 = .ok (.iload_n 0, 1) := by decide +kernel
theorem d_JI_bitCount_1 : decode b_JI_bitCount 1 = .ok (.iload_n 0, 1) := by decide +kernel
theorem d_JI_bitCount_2 : decode b_JI_bitCount 2 = .ok (.iconst 1, 1) := by decide +kernel
theorem d_JI_bitCount_3 : decode b_JI_bitCount 3 = .ok (.iushr, 1) := by decide +kernel
theorem d_JI_bitCount_4 : decode b_JI_bitCount 4 = .ok (.ldc_w 265, 3) := by decide +kernel
theorem d_JI_bitCount_7 : decode b_JI_bitCount 7 = .ok (.iand, 1) := by decide +kernel
theorem d_JI_bitCount_8 : decode b_JI_bitCount 8 = .ok (.isub, 1) := by decide +kernel
theorem d_JI_bitCount_9 : decode b_JI_bitCount 9 = .ok (.istore_n 0, 1) := by decide +kernel
theorem d_JI_bitCount_10 : decode b_JI_bitCount 10 = .ok (.iload_n 0, 1) := by decide +kernel
theorem d_JI_bitCount_11 : decode b_JI_bitCount 11 = .ok (.ldc_w 266, 3) := by decide +kernel
theorem d_JI_bitCount_14 : decode b_JI_bitCount 14 = .ok (.iand, 1) := by decide +kernel
theorem d_JI_bitCount_15 : decode b_JI_bitCount 15 = .ok (.iload_n 0, 1) := by decide +kernel
theorem d_JI_bitCount_16 : decode b_JI_bitCount 16 = .ok (.iconst 2, 1) := by decide +kernel
theorem d_JI_bitCount_17 : decode b_JI_bitCount 17 = .ok (.iushr, 1) := by decide +kernel
theorem d_JI_bitCount_18 : decode b_JI_bitCount 18 = .ok (.ldc_w 266, 3) := by decide +kernel
theorem d_JI_bitCount_21 : decode b_JI_bitCount 21 = .ok (.iand, 1) := by decide +kernel
theorem d_JI_bitCount_22 : decode b_JI_bitCount 22 = .ok (.iadd, 1) := by decide +kernel
theorem d_JI_bitCount_23 : decode b_JI_bitCount 23 = .ok (.istore_n 0, 1) := by decide +kernel
theorem d_JI_bitCount_24 : decode b_JI_bitCount 24 = .ok (.iload_n 0, 1) := by decide +kernel
theorem d_JI_bitCount_25 : decode b_JI_bitCount 25 = .ok (.iload_n 0, 1) := by decide +kernel
theorem d_JI_bitCount_26 : decode b_JI_bitCount 26 = .ok (.iconst 4, 1) := by decide +kernel
theorem d_JI_bitCount_27 : decode b_JI_bitCount 27 = .ok (.iushr, 1) := by decide +kernel
theorem d_JI_bitCount_28 : decode b_JI_bitCount 28 = .ok (.iadd, 1) := by decide +kernel
theorem d_JI_bitCount_29 : decode b_JI_bitCount 29 = .ok (.ldc_w 267, 3) := by decide +kernel
theorem d_JI_bitCount_32 : decode b_JI_bitCount 32 = .ok (.iand, 1) := by decide +kernel
theorem d_JI_bitCount_33 : decode b_JI_bitCount 33 = .ok (.istore_n 0, 1) := by decide +kernel
theorem d_JI_bitCount_34 : decode b_JI_bitCount 34 = .ok (.iload_n 0, 1) := by decide +kernel
theorem d_JI_bitCount_35 : decode b_JI_bitCount 35 = .ok (.iload_n 0, 1) := by decide +kernel
theorem d_JI_bitCount_36 : decode b_JI_bitCount 36 = .ok (.bipush 8, 2) := by decide +kernel
theorem d_JI_bitCount_38 : decode b_JI_bitCount 38 = .ok (.iushr, 1) := by decide +kernel
theorem d_JI_bitCount_39 : decode b_JI_bitCount 39 = .ok (.iadd, 1) := by decide +kernel
theorem d_JI_bitCount_40 : decode b_JI_bitCount 40 = .ok (.istore_n 0, 1) := by decide +kernel
theorem d_JI_bitCount_41 : decode b_JI_bitCount 41 = .ok (.iload_n 0, 1) := by decide +kernel
theorem d_JI_bitCount_42 : decode b_JI_bitCount 42 = .ok (.iload_n 0, 1) := by decide +kernel
theorem d_JI_bitCount_43 : decode b_JI_bitCount 43 = .ok (.bipush 16, 2) := by decide +kernel
theorem d_JI_bitCount_45 : decode b_JI_bitCount 45 = .ok (.iushr, 1) := by decide +kernel
theorem d_JI_bitCount_46 : decode b_JI_bitCount 46 = .ok (.iadd, 1) := by decide +kernel
theorem d_JI_bitCount_47 : decode b_JI_bitCount 47 = .ok (.istore_n 0, 1) := by decide +kernel
theorem d_JI_bitCount_48 : decode b_JI_bitCount 48 = .ok (.iload_n 0, 1) := by decide +kernel
theorem d_JI_bitCount_49 : decode b_JI_bitCount 49 = .ok (.bipush 63, 2) := by decide +kernel
theorem d_JI_bitCount_51 : decode b_JI_bitCount 51 = .ok (.iand, 1) := by decide +kernel
theorem d_JI_bitCount_52 : decode b_JI_bitCount 52 = .ok (.ireturn, 1) := by decide +kernel
theorem d_JM_max_0 : decode b_JM_max 0 = .ok (.iload_n 0, 1) := by decide +kernel
theorem d_JM_max_1 : decode b_JM_max 1 = .ok (.iload_n 1, 1) := by decide +kernel
theorem d_JM_max_2 : decode b_JM_max 2 = .ok (.if_icmp .lt 7, 3) := by decide +kernel
theorem d_JM_max_5 : decode b_JM_max 5 = .ok (.iload_n 0, 1) := by decide +kernel
theorem d_JM_max_6 : decode b_JM_max 6 = .ok (.goto 4, 3) := by decide +kernel
theorem d_JM_max_9 : decode b_JM_max 9 = .ok (.iload_n 1, 1) := by decide +kernel
theorem d_JM_max_10 : decode b_JM_max 10 = .ok (.ireturn, 1) := by decide +kernel
theorem d_JM_min_0 : decode b_JM_min 0 = .ok (.iload_n 0, 1) := by decide +kernel
theorem d_JM_min_1 : decode b_JM_min 1 = .ok (.iload_n 1, 1) := by decide +kernel
theorem d_JM_min_2 : decode b_JM_min 2 = .ok (.if_icmp .gt 7, 3) := by decide +kernel
theorem d_JM_min_5 : decode b_JM_min 5 = .ok (.iload_n 0, 1) := by decide +kernel
theorem d_JM_min_6 : decode b_JM_min 6 = .ok (.goto 4, 3) := by decide +kernel
theorem d_JM_min_9 : decode b_JM_min 9 = .ok (.iload_n 1, 1) := by decide +kernel
theorem d_JM_min_10 : decode b_JM_min 10 = .ok (.ireturn, 1) := by decide +kernel
theorem d_L_become_0 : decode b_L_become 0 = .ok (.aload_n 0, 1) := by decide +kernel
theorem d_L_become_1 : decode b_L_become 1 = .ok (.aload_n 1, 1) := by decide +kernel
theorem d_L_become_2 : decode b_L_become 2 = .ok (.getfield 9, 3) := by decide +kernel
theorem d_L_become_5 : decode b_L_become 5 = .ok (.putfield 9, 3) := by decide +kernel
theorem d_L_become_8 : decode b_L_become 8 = .ok (.aload_n 0, 1) := by decide +kernel
theorem d_L_become_9 : decode b_L_become 9 = .ok (.aload_n 1, 1) := by decide +kernel
theorem d_L_become_10 : decode b_L_become 10 = .ok (.getfield 15, 3) := by decide +kernel
theorem d_L_become_13 : decode b_L_become 13 = .ok (.putfield 15, 3) := by decide +kernel
theorem d_L_become_16 : decode b_L_become 16 = .ok (.aload_n 0, 1) := by decide +kernel
theorem d_L_become_17 : decode b_L_become 17 = .ok (.aload_n 1, 1) := by decide +kernel
theorem d_L_become_18 : decode b_L_become 18 = .ok (.getfield 18, 3) := by decide +kernel
theorem d_L_become_21 : decode b_L_become 21 = .ok (.putfield 18, 3) := by decide +kernel
theorem d_L_become_24 : decode b_L_become 24 = .ok (.aload_n 0, 1) := by decide +kernel
theorem d_L_become_25 : decode b_L_become 25 = .ok (.aload_n 1, 1) := by decide +kernel
theorem d_L_become_26 : decode b_L_become 26 = .ok (.getfield 21, 3) := by decide +kernel
theorem d_L_become_29 : decode b_L_become 29 = .ok (.putfield 21, 3) := by decide +kernel
theorem d_L_become_32 : decode b_L_become 32 = .ok (.aload_n 0, 1) := by decide +kernel
theorem d_L_become_33 : decode b_L_become 33 = .ok (.aload_n 1, 1) := by decide +kernel
theorem d_L_become_34 : decode b_L_become 34 = .ok (.getfield 24, 3) := by decide +kernel
theorem d_L_become_37 : decode b_L_become 37 = .ok (.putfield 24, 3) := by decide +kernel
theorem d_L_become_40 : decode b_L_become 40 = .ok (.return_, 1) := by decide +kernel
theorem d_L_change_0 : decode b_L_change 0 = .ok (.iload_n 1, 1) := by decide +kernel
theorem d_L_change_1 : decode b_L_change 1 = .ok (.lookupswitch 43 #[(0, 27), (1, 35)], 27) := by decide +kernel
theorem d_L_change_28 : decode b_L_change 28 = .ok (.aload_n 0, 1) := by decide +kernel
theorem d_L_change_29 : decode b_L_change 29 = .ok (.iload_n 2, 1) := by decide +kernel
theorem d_L_change_30 : decode b_L_change 30 = .ok (.putfield 15, 3) := by decide +kernel
theorem d_L_change_33 : decode b_L_change 33 = .ok (.goto 16, 3) := by decide +kernel
theorem d_L_change_36 : decode b_L_change 36 = .ok (.aload_n 0, 1) := by decide +kernel
theorem d_L_change_37 : decode b_L_change 37 = .ok (.iload_n 2, 1) := by decide +kernel
theorem d_L_change_38 : decode b_L_change 38 = .ok (.putfield 24, 3) := by decide +kernel
theorem d_L_change_41 : decode b_L_change 41 = .ok (.goto 8, 3) := by decide +kernel
theorem d_L_change_44 : decode b_L_change 44 = .ok (.aload_n 0, 1) := by decide +kernel
theorem d_L_change_45 : decode b_L_change 45 = .ok (.iload_n 2, 1) := by decide +kernel
theorem d_L_change_46 : decode b_L_change 46 = .ok (.putfield 9, 3) := by decide +kernel
theorem d_L_change_49 : decode b_L_change 49 = .ok (.return_, 1) := by decide +kernel
theorem d_L_fallsAheadOf_0 : decode b_L_fallsAheadOf 0 = .ok (.aload_n 0, 1) := by decide +kernel
theorem d_L_fallsAheadOf_1 : decode b_L_fallsAheadOf 1 = .ok (.getfield 18, 3) := by decide +kernel
theorem d_L_fallsAheadOf_4 : decode b_L_fallsAheadOf 4 = .ok (.aload_n 1, 1) := by decide +kernel
theorem d_L_fallsAheadOf_5 : decode b_L_fallsAheadOf 5 = .ok (.getfield 18, 3) := by decide +kernel
theorem d_L_fallsAheadOf_8 : decode b_L_fallsAheadOf 8 = .ok (.if_icmp .gt 25, 3) := by decide +kernel
theorem d_L_fallsAheadOf_11 : decode b_L_fallsAheadOf 11 = .ok (.aload_n 0, 1) := by decide +kernel
theorem d_L_fallsAheadOf_12 : decode b_L_fallsAheadOf 12 = .ok (.getfield 18, 3) := by decide +kernel
theorem d_L_fallsAheadOf_15 : decode b_L_fallsAheadOf 15 = .ok (.aload_n 1, 1) := by decide +kernel
theorem d_L_fallsAheadOf_16 : decode b_L_fallsAheadOf 16 = .ok (.getfield 18, 3) := by decide +kernel
theorem d_L_fallsAheadOf_19 : decode b_L_fallsAheadOf 19 = .ok (.if_icmp .ne 18, 3) := by decide +kernel
theorem d_L_fallsAheadOf_22 : decode b_L_fallsAheadOf 22 = .ok (.aload_n 0, 1) := by decide +kernel
theorem d_L_fallsAheadOf_23 : decode b_L_fallsAheadOf 23 = .ok (.getfield 24, 3) := by decide +kernel
theorem d_L_fallsAheadOf_26 : decode b_L_fallsAheadOf 26 = .ok (.aload_n 1, 1) := by decide +kernel
theorem d_L_fallsAheadOf_27 : decode b_L_fallsAheadOf 27 = .ok (.getfield 24, 3) := by decide +kernel
theorem d_L_fallsAheadOf_30 : decode b_L_fallsAheadOf 30 = .ok (.if_icmp .le 7, 3) := by decide +kernel
theorem d_L_fallsAheadOf_33 : decode b_L_fallsAheadOf 33 = .ok (.iconst 1, 1) := by decide +kernel
theorem d_L_fallsAheadOf_34 : decode b_L_fallsAheadOf 34 = .ok (.goto 4, 3) := by decide +kernel
theorem d_L_fallsAheadOf_37 : decode b_L_fallsAheadOf 37 = .ok (.iconst 0, 1) := by decide +kernel
theorem d_L_fallsAheadOf_38 : decode b_L_fallsAheadOf 38 = .ok (.ireturn, 1) := by decide +kernel
theorem d_L_init_0 : decode b_L_init 0 = .ok (.aload_n 0, 1) := by decide +kernel
theorem d_L_init_1 : decode b_L_init 1 = .ok (.invokespecial 3, 3) := by decide +kernel
theorem d_L_init_4 : decode b_L_init 4 = .ok (.aload_n 0, 1) := by decide +kernel
theorem d_L_init_5 : decode b_L_init 5 = .ok (.iconst 1, 1) := by decide +kernel
theorem d_L_init_6 : decode b_L_init 6 = .ok (.putfield 9, 3) := by decide +kernel
theorem d_L_init_9 : decode b_L_init 9 = .ok (.return_, 1) := by decide +kernel
theorem d_L_weighAmong_0 : decode b_L_weighAmong 0 = .ok (.aload_n 0, 1) := by decide +kernel
theorem d_L_weighAmong_1 : decode b_L_weighAmong 1 = .ok (.getfield 9, 3) := by decide +kernel
theorem d_L_weighAmong_4 : decode b_L_weighAmong 4 = .ok (.tableswitch 79 2 5 #[32, 44, 67, 72], 32) := by decide +kernel
theorem d_L_weighAmong_36 : decode b_L_weighAmong 36 = .ok (.iconst 2, 1) := by decide +kernel
theorem d_L_weighAmong_37 : decode b_L_weighAmong 37 = .ok (.aload_n 0, 1) := by decide +kernel
theorem d_L_weighAmong_38 : decode b_L_weighAmong 38 = .ok (.getfield 15, 3) := by decide +kernel
theorem d_L_weighAmong_41 : decode b_L_weighAmong 41 = .ok (.aload_n 0, 1) := by decide +kernel
theorem d_L_weighAmong_42 : decode b_L_weighAmong 42 = .ok (.getfield 24, 3) := by decide +kernel
theorem d_L_weighAmong_45 : decode b_L_weighAmong 45 = .ok (.iadd, 1) := by decide +kernel
theorem d_L_weighAmong_46 : decode b_L_weighAmong 46 = .ok (.imul, 1) := by decide +kernel
theorem d_L_weighAmong_47 : decode b_L_weighAmong 47 = .ok (.ireturn, 1) := by decide +kernel
theorem d_L_weighAmong_48 : decode b_L_weighAmong 48 = .ok (.aload_n 0, 1) := by decide +kernel
theorem d_L_weighAmong_49 : decode b_L_weighAmong 49 = .ok (.getfield 24, 3) := by decide +kernel
theorem d_L_weighAmong_52 : decode b_L_weighAmong 52 = .ok (.bipush 9, 2) := by decide +kernel
theorem d_L_weighAmong_54 : decode b_L_weighAmong 54 = .ok (.if_icmp .ge 15, 3) := by decide +kernel
theorem d_L_weighAmong_57 : decode b_L_weighAmong 57 = .ok (.aload_n 0, 1) := by decide +kernel
theorem d_L_weighAmong_58 : decode b_L_weighAmong 58 = .ok (.getfield 15, 3) := by decide +kernel
theorem d_L_weighAmong_61 : decode b_L_weighAmong 61 = .ok (.aload_n 0, 1) := by decide +kernel
theorem d_L_weighAmong_62 : decode b_L_weighAmong 62 = .ok (.getfield 24, 3) := by decide +kernel
theorem d_L_weighAmong_65 : decode b_L_weighAmong 65 = .ok (.iadd, 1) := by decide +kernel
theorem d_L_weighAmong_66 : decode b_L_weighAmong 66 = .ok (.goto 4, 3) := by decide +kernel
theorem d_L_weighAmong_69 : decode b_L_weighAmong 69 = .ok (.iconst 0, 1) := by decide +kernel
theorem d_L_weighAmong_70 : decode b_L_weighAmong 70 = .ok (.ireturn, 1) := by decide +kernel
theorem d_L_weighAmong_71 : decode b_L_weighAmong 71 = .ok (.aload_n 0, 1) := by decide +kernel
theorem d_L_weighAmong_72 : decode b_L_weighAmong 72 = .ok (.getfield 15, 3) := by decide +kernel
theorem d_L_weighAmong_75 : decode b_L_weighAmong 75 = .ok (.ireturn, 1) := by decide +kernel
theorem d_L_weighAmong_76 : decode b_L_weighAmong 76 = .ok (.aload_n 0, 1) := by decide +kernel
theorem d_L_weighAmong_77 : decode b_L_weighAmong 77 = .ok (.getfield 15, 3) := by decide +kernel
theorem d_L_weighAmong_80 : decode b_L_weighAmong 80 = .ok (.iload_n 1, 1) := by decide +kernel
theorem d_L_weighAmong_81 : decode b_L_weighAmong 81 = .ok (.iadd, 1) := by decide +kernel
theorem d_L_weighAmong_82 : decode b_L_weighAmong 82 = .ok (.ireturn, 1) := by decide +kernel
theorem d_L_weighAmong_83 : decode b_L_weighAmong 83 = .ok (.aload_n 0, 1) := by decide +kernel
theorem d_L_weighAmong_84 : decode b_L_weighAmong 84 = .ok (.getfield 15, 3) := by decide +kernel
theorem d_L_weighAmong_87 : decode b_L_weighAmong 87 = .ok (.aload_n 0, 1) := by decide +kernel
theorem d_L_weighAmong_88 : decode b_L_weighAmong 88 = .ok (.getfield 24, 3) := by decide +kernel
theorem d_L_weighAmong_91 : decode b_L_weighAmong 91 = .ok (.iadd, 1) := by decide +kernel
theorem d_L_weighAmong_92 : decode b_L_weighAmong 92 = .ok (.ireturn, 1) := by decide +kernel
theorem d_M_answer_0 : decode b_M_answer 0 = .ok (.aload_n 0, 1) := by decide +kernel
theorem d_M_answer_1 : decode b_M_answer 1 = .ok (.iload_n 1, 1) := by decide +kernel
theorem d_M_answer_2 : decode b_M_answer 2 = .ok (.invokevirtual 175, 3) := by decide +kernel
theorem d_M_answer_5 : decode b_M_answer 5 = .ok (.ifCond .ne 6, 3) := by decide +kernel
theorem d_M_answer_8 : decode b_M_answer 8 = .ok (.ldc 55, 2) := by decide +kernel
theorem d_M_answer_10 : decode b_M_answer 10 = .ok (.ireturn, 1) := by decide +kernel
theorem d_M_answer_11 : decode b_M_answer 11 = .ok (.aload_n 0, 1) := by decide +kernel
theorem d_M_answer_12 : decode b_M_answer 12 = .ok (.getfield 7, 3) := by decide +kernel
theorem d_M_answer_15 : decode b_M_answer 15 = .ok (.iconst 3, 1) := by decide +kernel
theorem d_M_answer_16 : decode b_M_answer 16 = .ok (.iaload, 1) := by decide +kernel
theorem d_M_answer_17 : decode b_M_answer 17 = .ok (.iload_n 1, 1) := by decide +kernel
theorem d_M_answer_18 : decode b_M_answer 18 = .ok (.invokestatic 138, 3) := by decide +kernel
theorem d_M_answer_21 : decode b_M_answer 21 = .ok (.ifCond .ne 6, 3) := by decide +kernel
theorem d_M_answer_24 : decode b_M_answer 24 = .ok (.ldc 137, 2) := by decide +kernel
theorem d_M_answer_26 : decode b_M_answer 26 = .ok (.ireturn, 1) := by decide +kernel
theorem d_M_answer_27 : decode b_M_answer 27 = .ok (.aload_n 0, 1) := by decide +kernel
theorem d_M_answer_28 : decode b_M_answer 28 = .ok (.invokevirtual 172, 3) := by decide +kernel
theorem d_M_answer_31 : decode b_M_answer 31 = .ok (.aload_n 0, 1) := by decide +kernel
theorem d_M_answer_32 : decode b_M_answer 32 = .ok (.iconst 0, 1) := by decide +kernel
theorem d_M_answer_33 : decode b_M_answer 33 = .ok (.iload_n 1, 1) := by decide +kernel
theorem d_M_answer_34 : decode b_M_answer 34 = .ok (.invokevirtual 178, 3) := by decide +kernel
theorem d_M_answer_37 : decode b_M_answer 37 = .ok (.aload_n 0, 1) := by decide +kernel
theorem d_M_answer_38 : decode b_M_answer 38 = .ok (.getfield 7, 3) := by decide +kernel
theorem d_M_answer_41 : decode b_M_answer 41 = .ok (.iconst 5, 1) := by decide +kernel
theorem d_M_answer_42 : decode b_M_answer 42 = .ok (.iaload, 1) := by decide +kernel
theorem d_M_answer_43 : decode b_M_answer 43 = .ok (.ireturn, 1) := by decide +kernel
theorem d_M_answers_0 : decode b_M_answers 0 = .ok (.aload_n 0, 1) := by decide +kernel
theorem d_M_answers_1 : decode b_M_answers 1 = .ok (.iload_n 1, 1) := by decide +kernel
theorem d_M_answers_2 : decode b_M_answers 2 = .ok (.iload_n 2, 1) := by decide +kernel
theorem d_M_answers_3 : decode b_M_answers 3 = .ok (.aload_n 0, 1) := by decide +kernel
theorem d_M_answers_4 : decode b_M_answers 4 = .ok (.getfield 7, 3) := by decide +kernel
theorem d_M_answers_7 : decode b_M_answers 7 = .ok (.iload_n 1, 1) := by decide +kernel
theorem d_M_answers_8 : decode b_M_answers 8 = .ok (.bipush 24, 2) := by decide +kernel
theorem d_M_answers_10 : decode b_M_answers 10 = .ok (.iadd, 1) := by decide +kernel
theorem d_M_answers_11 : decode b_M_answers 11 = .ok (.iload_n 2, 1) := by decide +kernel
theorem d_M_answers_12 : decode b_M_answers 12 = .ok (.iadd, 1) := by decide +kernel
theorem d_M_answers_13 : decode b_M_answers 13 = .ok (.iaload, 1) := by decide +kernel
theorem d_M_answers_14 : decode b_M_answers 14 = .ok (.iconst 2, 1) := by decide +kernel
theorem d_M_answers_15 : decode b_M_answers 15 = .ok (.idiv, 1) := by decide +kernel
theorem d_M_answers_16 : decode b_M_answers 16 = .ok (.invokevirtual 163, 3) := by decide +kernel
theorem d_M_answers_19 : decode b_M_answers 19 = .ok (.return_, 1) := by decide +kernel
theorem d_M_answersAll_0 : decode b_M_answersAll 0 = .ok (.aload_n 0, 1) := by decide +kernel
theorem d_M_answersAll_1 : decode b_M_answersAll 1 = .ok (.invokevirtual 188, 3) := by decide +kernel
theorem d_M_answersAll_4 : decode b_M_answersAll 4 = .ok (.iconst 0, 1) := by decide +kernel
theorem d_M_answersAll_5 : decode b_M_answersAll 5 = .ok (.istore_n 2, 1) := by decide +kernel
theorem d_M_answersAll_6 : decode b_M_answersAll 6 = .ok (.iload_n 2, 1) := by decide +kernel
theorem d_M_answersAll_7 : decode b_M_answersAll 7 = .ok (.aload_n 0, 1) := by decide +kernel
theorem d_M_answersAll_8 : decode b_M_answersAll 8 = .ok (.getfield 7, 3) := by decide +kernel
theorem d_M_answersAll_11 : decode b_M_answersAll 11 = .ok (.iconst 0, 1) := by decide +kernel
theorem d_M_answersAll_12 : decode b_M_answersAll 12 = .ok (.iaload, 1) := by decide +kernel
theorem d_M_answersAll_13 : decode b_M_answersAll 13 = .ok (.if_icmp .ge 25, 3) := by decide +kernel
theorem d_M_answersAll_16 : decode b_M_answersAll 16 = .ok (.iload_n 1, 1) := by decide +kernel
theorem d_M_answersAll_17 : decode b_M_answersAll 17 = .ok (.iload_n 2, 1) := by decide +kernel
theorem d_M_answersAll_18 : decode b_M_answersAll 18 = .ok (.invokestatic 138, 3) := by decide +kernel
theorem d_M_answersAll_21 : decode b_M_answersAll 21 = .ok (.ifCond .eq 11, 3) := by decide +kernel
theorem d_M_answersAll_24 : decode b_M_answersAll 24 = .ok (.aload_n 0, 1) := by decide +kernel
theorem d_M_answersAll_25 : decode b_M_answersAll 25 = .ok (.sipush 972, 3) := by decide +kernel
theorem d_M_answersAll_28 : decode b_M_answersAll 28 = .ok (.iload_n 2, 1) := by decide +kernel
theorem d_M_answersAll_29 : decode b_M_answersAll 29 = .ok (.invokevirtual 178, 3) := by decide +kernel
theorem d_M_answersAll_32 : decode b_M_answersAll 32 = .ok (.iinc 2 1, 3) := by decide +kernel
theorem d_M_answersAll_35 : decode b_M_answersAll 35 = .ok (.goto (-29), 3) := by decide +kernel
theorem d_M_answersAll_38 : decode b_M_answersAll 38 = .ok (.return_, 1) := by decide +kernel
theorem d_M_as_0 : decode b_M_as 0 = .ok (.aload_n 0, 1) := by decide +kernel
theorem d_M_as_1 : decode b_M_as 1 = .ok (.iload_n 1, 1) := by decide +kernel
theorem d_M_as_2 : decode b_M_as 2 = .ok (.invokevirtual 175, 3) := by decide +kernel
theorem d_M_as_5 : decode b_M_as 5 = .ok (.ifCond .eq 15, 3) := by decide +kernel
theorem d_M_as_8 : decode b_M_as 8 = .ok (.iload_n 2, 1) := by decide +kernel
theorem d_M_as_9 : decode b_M_as 9 = .ok (.i2l, 1) := by decide +kernel
theorem d_M_as_10 : decode b_M_as 10 = .ok (.lconst 0, 1) := by decide +kernel
theorem d_M_as_11 : decode b_M_as 11 = .ok (.ldc2_w 202, 3) := by decide +kernel
theorem d_M_as_14 : decode b_M_as 14 = .ok (.invokestatic 45, 3) := by decide +kernel
theorem d_M_as_17 : decode b_M_as 17 = .ok (.ifCond .ne 6, 3) := by decide +kernel
theorem d_M_as_20 : decode b_M_as 20 = .ok (.ldc 55, 2) := by decide +kernel
theorem d_M_as_22 : decode b_M_as 22 = .ok (.ireturn, 1) := by decide +kernel
theorem d_M_as_23 : decode b_M_as 23 = .ok (.aload_n 0, 1) := by decide +kernel
theorem d_M_as_24 : decode b_M_as 24 = .ok (.iload_n 1, 1) := by decide +kernel
theorem d_M_as_25 : decode b_M_as 25 = .ok (.iload_n 2, 1) := by decide +kernel
theorem d_M_as_26 : decode b_M_as 26 = .ok (.invokevirtual 244, 3) := by decide +kernel
theorem d_M_as_29 : decode b_M_as 29 = .ok (.ifCond .eq 11, 3) := by decide +kernel
theorem d_M_as_32 : decode b_M_as 32 = .ok (.aload_n 0, 1) := by decide +kernel
theorem d_M_as_33 : decode b_M_as 33 = .ok (.iload_n 1, 1) := by decide +kernel
theorem d_M_as_34 : decode b_M_as 34 = .ok (.invokevirtual 60, 3) := by decide +kernel
theorem d_M_as_37 : decode b_M_as 37 = .ok (.goto 8, 3) := by decide +kernel
theorem d_M_as_40 : decode b_M_as 40 = .ok (.aload_n 0, 1) := by decide +kernel
theorem d_M_as_41 : decode b_M_as 41 = .ok (.iconst 3, 1) := by decide +kernel
theorem d_M_as_42 : decode b_M_as 42 = .ok (.invokevirtual 56, 3) := by decide +kernel
theorem d_M_as_45 : decode b_M_as 45 = .ok (.ireturn, 1) := by decide +kernel
theorem d_M_ask_0 : decode b_M_ask 0 = .ok (.aload_n 0, 1) := by decide +kernel
theorem d_M_ask_1 : decode b_M_ask 1 = .ok (.iload_n 1, 1) := by decide +kernel
theorem d_M_ask_2 : decode b_M_ask 2 = .ok (.invokevirtual 175, 3) := by decide +kernel
theorem d_M_ask_5 : decode b_M_ask 5 = .ok (.ifCond .eq 13, 3) := by decide +kernel
theorem d_M_ask_8 : decode b_M_ask 8 = .ok (.iload_n 2, 1) := by decide +kernel
theorem d_M_ask_9 : decode b_M_ask 9 = .ok (.i2l, 1) := by decide +kernel
theorem d_M_ask_10 : decode b_M_ask 10 = .ok (.lconst 0, 1) := by decide +kernel
theorem d_M_ask_11 : decode b_M_ask 11 = .ok (.lconst 1, 1) := by decide +kernel
theorem d_M_ask_12 : decode b_M_ask 12 = .ok (.invokestatic 45, 3) := by decide +kernel
theorem d_M_ask_15 : decode b_M_ask 15 = .ok (.ifCond .ne 6, 3) := by decide +kernel
theorem d_M_ask_18 : decode b_M_ask 18 = .ok (.ldc 55, 2) := by decide +kernel
theorem d_M_ask_20 : decode b_M_ask 20 = .ok (.ireturn, 1) := by decide +kernel
theorem d_M_ask_21 : decode b_M_ask 21 = .ok (.aload_n 0, 1) := by decide +kernel
theorem d_M_ask_22 : decode b_M_ask 22 = .ok (.iconst 0, 1) := by decide +kernel
theorem d_M_ask_23 : decode b_M_ask 23 = .ok (.putfield 247, 3) := by decide +kernel
theorem d_M_ask_26 : decode b_M_ask 26 = .ok (.iload_n 2, 1) := by decide +kernel
theorem d_M_ask_27 : decode b_M_ask 27 = .ok (.ifCond .ne 11, 3) := by decide +kernel
theorem d_M_ask_30 : decode b_M_ask 30 = .ok (.aload_n 0, 1) := by decide +kernel
theorem d_M_ask_31 : decode b_M_ask 31 = .ok (.iload_n 1, 1) := by decide +kernel
theorem d_M_ask_32 : decode b_M_ask 32 = .ok (.invokevirtual 271, 3) := by decide +kernel
theorem d_M_ask_35 : decode b_M_ask 35 = .ok (.goto 25, 3) := by decide +kernel
theorem d_M_ask_38 : decode b_M_ask 38 = .ok (.aload_n 0, 1) := by decide +kernel
theorem d_M_ask_39 : decode b_M_ask 39 = .ok (.iload_n 1, 1) := by decide +kernel
theorem d_M_ask_40 : decode b_M_ask 40 = .ok (.iconst 4, 1) := by decide +kernel
theorem d_M_ask_41 : decode b_M_ask 41 = .ok (.invokevirtual 244, 3) := by decide +kernel
theorem d_M_ask_44 : decode b_M_ask 44 = .ok (.ifCond .eq 11, 3) := by decide +kernel
theorem d_M_ask_47 : decode b_M_ask 47 = .ok (.aload_n 0, 1) := by decide +kernel
theorem d_M_ask_48 : decode b_M_ask 48 = .ok (.iload_n 1, 1) := by decide +kernel
theorem d_M_ask_49 : decode b_M_ask 49 = .ok (.invokevirtual 274, 3) := by decide +kernel
theorem d_M_ask_52 : decode b_M_ask 52 = .ok (.goto 8, 3) := by decide +kernel
theorem d_M_ask_55 : decode b_M_ask 55 = .ok (.aload_n 0, 1) := by decide +kernel
theorem d_M_ask_56 : decode b_M_ask 56 = .ok (.iload_n 1, 1) := by decide +kernel
theorem d_M_ask_57 : decode b_M_ask 57 = .ok (.invokevirtual 256, 3) := by decide +kernel
theorem d_M_ask_60 : decode b_M_ask 60 = .ok (.ireturn, 1) := by decide +kernel
theorem d_M_atMost_0 : decode b_M_atMost 0 = .ok (.iload_n 0, 1) := by decide +kernel
theorem d_M_atMost_1 : decode b_M_atMost 1 = .ok (.iload_n 1, 1) := by decide +kernel
theorem d_M_atMost_2 : decode b_M_atMost 2 = .ok (.if_icmp .le 7, 3) := by decide +kernel
theorem d_M_atMost_5 : decode b_M_atMost 5 = .ok (.iload_n 1, 1) := by decide +kernel
theorem d_M_atMost_6 : decode b_M_atMost 6 = .ok (.goto 4, 3) := by decide +kernel
theorem d_M_atMost_9 : decode b_M_atMost 9 = .ok (.iload_n 0, 1) := by decide +kernel
theorem d_M_atMost_10 : decode b_M_atMost 10 = .ok (.ireturn, 1) := by decide +kernel
theorem d_M_away_0 : decode b_M_away 0 = .ok (.aload_n 0, 1) := by decide +kernel
theorem d_M_away_1 : decode b_M_away 1 = .ok (.getfield 7, 3) := by decide +kernel
theorem d_M_away_4 : decode b_M_away 4 = .ok (.iload_n 1, 1) := by decide +kernel
theorem d_M_away_5 : decode b_M_away 5 = .ok (.iconst 3, 1) := by decide +kernel
theorem d_M_away_6 : decode b_M_away 6 = .ok (.iadd, 1) := by decide +kernel
theorem d_M_away_7 : decode b_M_away 7 = .ok (.dup2, 1) := by decide +kernel
theorem d_M_away_8 : decode b_M_away 8 = .ok (.iaload, 1) := by decide +kernel
theorem d_M_away_9 : decode b_M_away 9 = .ok (.iconst 1, 1) := by decide +kernel
theorem d_M_away_10 : decode b_M_away 10 = .ok (.iload_n 2, 1) := by decide +kernel
theorem d_M_away_11 : decode b_M_away 11 = .ok (.ishl, 1) := by decide +kernel
theorem d_M_away_12 : decode b_M_away 12 = .ok (.iconst (-1), 1) := by decide +kernel
theorem d_M_away_13 : decode b_M_away 13 = .ok (.ixor, 1) := by decide +kernel
theorem d_M_away_14 : decode b_M_away 14 = .ok (.iand, 1) := by decide +kernel
theorem d_M_away_15 : decode b_M_away 15 = .ok (.iastore, 1) := by decide +kernel
theorem d_M_away_16 : decode b_M_away 16 = .ok (.aload_n 0, 1) := by decide +kernel
theorem d_M_away_17 : decode b_M_away 17 = .ok (.getfield 7, 3) := by decide +kernel
theorem d_M_away_20 : decode b_M_away 20 = .ok (.iload_n 1, 1) := by decide +kernel
theorem d_M_away_21 : decode b_M_away 21 = .ok (.iconst 5, 1) := by decide +kernel
theorem d_M_away_22 : decode b_M_away 22 = .ok (.iadd, 1) := by decide +kernel
theorem d_M_away_23 : decode b_M_away 23 = .ok (.aload_n 0, 1) := by decide +kernel
theorem d_M_away_24 : decode b_M_away 24 = .ok (.getfield 7, 3) := by decide +kernel
theorem d_M_away_27 : decode b_M_away 27 = .ok (.iload_n 1, 1) := by decide +kernel
theorem d_M_away_28 : decode b_M_away 28 = .ok (.iconst 5, 1) := by decide +kernel
theorem d_M_away_29 : decode b_M_away 29 = .ok (.iadd, 1) := by decide +kernel
theorem d_M_away_30 : decode b_M_away 30 = .ok (.iaload, 1) := by decide +kernel
theorem d_M_away_31 : decode b_M_away 31 = .ok (.iload_n 3, 1) := by decide +kernel
theorem d_M_away_32 : decode b_M_away 32 = .ok (.iadd, 1) := by decide +kernel
theorem d_M_away_33 : decode b_M_away 33 = .ok (.sipush 9999, 3) := by decide +kernel
theorem d_M_away_36 : decode b_M_away 36 = .ok (.invokestatic 154, 3) := by decide +kernel
theorem d_M_away_39 : decode b_M_away 39 = .ok (.iastore, 1) := by decide +kernel
theorem d_M_away_40 : decode b_M_away 40 = .ok (.return_, 1) := by decide +kernel
theorem d_M_begin_0 : decode b_M_begin 0 = .ok (.aload_n 0, 1) := by decide +kernel
theorem d_M_begin_1 : decode b_M_begin 1 = .ok (.getfield 247, 3) := by decide +kernel
theorem d_M_begin_4 : decode b_M_begin 4 = .ok (.bipush 16, 2) := by decide +kernel
theorem d_M_begin_6 : decode b_M_begin 6 = .ok (.if_icmp .ge 23, 3) := by decide +kernel
theorem d_M_begin_9 : decode b_M_begin 9 = .ok (.aload_n 0, 1) := by decide +kernel
theorem d_M_begin_10 : decode b_M_begin 10 = .ok (.getfield 29, 3) := by decide +kernel
theorem d_M_begin_13 : decode b_M_begin 13 = .ok (.aload_n 0, 1) := by decide +kernel
theorem d_M_begin_14 : decode b_M_begin 14 = .ok (.getfield 247, 3) := by decide +kernel
theorem d_M_begin_17 : decode b_M_begin 17 = .ok (.iload_n 1, 1) := by decide +kernel
theorem d_M_begin_18 : decode b_M_begin 18 = .ok (.iastore, 1) := by decide +kernel
theorem d_M_begin_19 : decode b_M_begin 19 = .ok (.aload_n 0, 1) := by decide +kernel
theorem d_M_begin_20 : decode b_M_begin 20 = .ok (.dup, 1) := by decide +kernel
theorem d_M_begin_21 : decode b_M_begin 21 = .ok (.getfield 247, 3) := by decide +kernel
theorem d_M_begin_24 : decode b_M_begin 24 = .ok (.iconst 1, 1) := by decide +kernel
theorem d_M_begin_25 : decode b_M_begin 25 = .ok (.iadd, 1) := by decide +kernel
theorem d_M_begin_26 : decode b_M_begin 26 = .ok (.putfield 247, 3) := by decide +kernel
theorem d_M_begin_29 : decode b_M_begin 29 = .ok (.return_, 1) := by decide +kernel
theorem d_M_behind_0 : decode b_M_behind 0 = .ok (.aload_n 0, 1) := by decide +kernel
theorem d_M_behind_1 : decode b_M_behind 1 = .ok (.iload_n 1, 1) := by decide +kernel
theorem d_M_behind_2 : decode b_M_behind 2 = .ok (.invokevirtual 194, 3) := by decide +kernel
theorem d_M_behind_5 : decode b_M_behind 5 = .ok (.istore_n 2, 1) := by decide +kernel
theorem d_M_behind_6 : decode b_M_behind 6 = .ok (.iload_n 2, 1) := by decide +kernel
theorem d_M_behind_7 : decode b_M_behind 7 = .ok (.ifCond .eq 7, 3) := by decide +kernel
theorem d_M_behind_10 : decode b_M_behind 10 = .ok (.iload_n 2, 1) := by decide +kernel
theorem d_M_behind_11 : decode b_M_behind 11 = .ok (.goto 11, 3) := by decide +kernel
theorem d_M_behind_14 : decode b_M_behind 14 = .ok (.aload_n 0, 1) := by decide +kernel
theorem d_M_behind_15 : decode b_M_behind 15 = .ok (.getfield 7, 3) := by decide +kernel
theorem d_M_behind_18 : decode b_M_behind 18 = .ok (.sipush 975, 3) := by decide +kernel
theorem d_M_behind_21 : decode b_M_behind 21 = .ok (.iaload, 1) := by decide +kernel
theorem d_M_behind_22 : decode b_M_behind 22 = .ok (.ireturn, 1) := by decide +kernel
theorem d_M_billMark_0 : decode b_M_billMark 0 = .ok (.aload_n 0, 1) := by decide +kernel
theorem d_M_billMark_1 : decode b_M_billMark 1 = .ok (.bipush 21, 2) := by decide +kernel
theorem d_M_billMark_3 : decode b_M_billMark 3 = .ok (.invokevirtual 250, 3) := by decide +kernel
theorem d_M_billMark_6 : decode b_M_billMark 6 = .ok (.aload_n 0, 1) := by decide +kernel
theorem d_M_billMark_7 : decode b_M_billMark 7 = .ok (.iload_n 1, 1) := by decide +kernel
theorem d_M_billMark_8 : decode b_M_billMark 8 = .ok (.invokevirtual 265, 3) := by decide +kernel
theorem d_M_billMark_11 : decode b_M_billMark 11 = .ok (.aload_n 0, 1) := by decide +kernel
theorem d_M_billMark_12 : decode b_M_billMark 12 = .ok (.getfield 7, 3) := by decide +kernel
theorem d_M_billMark_15 : decode b_M_billMark 15 = .ok (.bipush 30, 2) := by decide +kernel
theorem d_M_billMark_17 : decode b_M_billMark 17 = .ok (.iload_n 1, 1) := by decide +kernel
theorem d_M_billMark_18 : decode b_M_billMark 18 = .ok (.iadd, 1) := by decide +kernel
theorem d_M_billMark_19 : decode b_M_billMark 19 = .ok (.iaload, 1) := by decide +kernel
theorem d_M_billMark_20 : decode b_M_billMark 20 = .ok (.iadd, 1) := by decide +kernel
theorem d_M_billMark_21 : decode b_M_billMark 21 = .ok (.ireturn, 1) := by decide +kernel
theorem d_M_billSize_0 : decode b_M_billSize 0 = .ok (.aload_n 0, 1) := by decide +kernel
theorem d_M_billSize_1 : decode b_M_billSize 1 = .ok (.bipush 11, 2) := by decide +kernel
theorem d_M_billSize_3 : decode b_M_billSize 3 = .ok (.invokevirtual 250, 3) := by decide +kernel
theorem d_M_billSize_6 : decode b_M_billSize 6 = .ok (.aload_n 0, 1) := by decide +kernel
theorem d_M_billSize_7 : decode b_M_billSize 7 = .ok (.iload_n 1, 1) := by decide +kernel
theorem d_M_billSize_8 : decode b_M_billSize 8 = .ok (.invokevirtual 253, 3) := by decide +kernel
theorem d_M_billSize_11 : decode b_M_billSize 11 = .ok (.istore_n 2, 1) := by decide +kernel
theorem d_M_billSize_12 : decode b_M_billSize 12 = .ok (.iload_n 2, 1) := by decide +kernel
theorem d_M_billSize_13 : decode b_M_billSize 13 = .ok (.aload_n 0, 1) := by decide +kernel
theorem d_M_billSize_14 : decode b_M_billSize 14 = .ok (.iload_n 1, 1) := by decide +kernel
theorem d_M_billSize_15 : decode b_M_billSize 15 = .ok (.invokevirtual 256, 3) := by decide +kernel
theorem d_M_billSize_18 : decode b_M_billSize 18 = .ok (.iadd, 1) := by decide +kernel
theorem d_M_billSize_19 : decode b_M_billSize 19 = .ok (.ireturn, 1) := by decide +kernel
theorem d_M_bits_0 : decode b_M_bits 0 = .ok (.iconst 0, 1) := by decide +kernel
theorem d_M_bits_1 : decode b_M_bits 1 = .ok (.istore_n 1, 1) := by decide +kernel
theorem d_M_bits_2 : decode b_M_bits 2 = .ok (.iconst 0, 1) := by decide +kernel
theorem d_M_bits_3 : decode b_M_bits 3 = .ok (.istore_n 2, 1) := by decide +kernel
theorem d_M_bits_4 : decode b_M_bits 4 = .ok (.iload_n 2, 1) := by decide +kernel
theorem d_M_bits_5 : decode b_M_bits 5 = .ok (.bipush 6, 2) := by decide +kernel
theorem d_M_bits_7 : decode b_M_bits 7 = .ok (.if_icmp .ge 17, 3) := by decide +kernel
theorem d_M_bits_10 : decode b_M_bits 10 = .ok (.iload_n 1, 1) := by decide +kernel
theorem d_M_bits_11 : decode b_M_bits 11 = .ok (.iload_n 0, 1) := by decide +kernel
theorem d_M_bits_12 : decode b_M_bits 12 = .ok (.iload_n 2, 1) := by decide +kernel
theorem d_M_bits_13 : decode b_M_bits 13 = .ok (.ishr, 1) := by decide +kernel
theorem d_M_bits_14 : decode b_M_bits 14 = .ok (.iconst 1, 1) := by decide +kernel
theorem d_M_bits_15 : decode b_M_bits 15 = .ok (.iand, 1) := by decide +kernel
theorem d_M_bits_16 : decode b_M_bits 16 = .ok (.iadd, 1) := by decide +kernel
theorem d_M_bits_17 : decode b_M_bits 17 = .ok (.istore_n 1, 1) := by decide +kernel
theorem d_M_bits_18 : decode b_M_bits 18 = .ok (.iinc 2 1, 3) := by decide +kernel
theorem d_M_bits_21 : decode b_M_bits 21 = .ok (.goto (-17), 3) := by decide +kernel
theorem d_M_bits_24 : decode b_M_bits 24 = .ok (.iload_n 1, 1) := by decide +kernel
theorem d_M_bits_25 : decode b_M_bits 25 = .ok (.ireturn, 1) := by decide +kernel
theorem d_M_burden_0 : decode b_M_burden 0 = .ok (.aload_n 0, 1) := by decide +kernel
theorem d_M_burden_1 : decode b_M_burden 1 = .ok (.iload_n 1, 1) := by decide +kernel
theorem d_M_burden_2 : decode b_M_burden 2 = .ok (.invokevirtual 194, 3) := by decide +kernel
theorem d_M_burden_5 : decode b_M_burden 5 = .ok (.istore_n 2, 1) := by decide +kernel
theorem d_M_burden_6 : decode b_M_burden 6 = .ok (.iload_n 2, 1) := by decide +kernel
theorem d_M_burden_7 : decode b_M_burden 7 = .ok (.ifCond .eq 7, 3) := by decide +kernel
theorem d_M_burden_10 : decode b_M_burden 10 = .ok (.iload_n 2, 1) := by decide +kernel
theorem d_M_burden_11 : decode b_M_burden 11 = .ok (.goto 10, 3) := by decide +kernel
theorem d_M_burden_14 : decode b_M_burden 14 = .ok (.aload_n 0, 1) := by decide +kernel
theorem d_M_burden_15 : decode b_M_burden 15 = .ok (.sipush 972, 3) := by decide +kernel
theorem d_M_burden_18 : decode b_M_burden 18 = .ok (.invokevirtual 157, 3) := by decide +kernel
theorem d_M_burden_21 : decode b_M_burden 21 = .ok (.ireturn, 1) := by decide +kernel
theorem d_M_burdenAt_0 : decode b_M_burdenAt 0 = .ok (.iconst 0, 1) := by decide +kernel
theorem d_M_burdenAt_1 : decode b_M_burdenAt 1 = .ok (.istore_n 2, 1) := by decide +kernel
theorem d_M_burdenAt_2 : decode b_M_burdenAt 2 = .ok (.iconst 0, 1) := by decide +kernel
theorem d_M_burdenAt_3 : decode b_M_burdenAt 3 = .ok (.istore_n 3, 1) := by decide +kernel
theorem d_M_burdenAt_4 : decode b_M_burdenAt 4 = .ok (.iload_n 3, 1) := by decide +kernel
theorem d_M_burdenAt_5 : decode b_M_burdenAt 5 = .ok (.aload_n 0, 1) := by decide +kernel
theorem d_M_burdenAt_6 : decode b_M_burdenAt 6 = .ok (.getfield 7, 3) := by decide +kernel
theorem d_M_burdenAt_9 : decode b_M_burdenAt 9 = .ok (.iload_n 1, 1) := by decide +kernel
theorem d_M_burdenAt_10 : decode b_M_burdenAt 10 = .ok (.iconst 0, 1) := by decide +kernel
theorem d_M_burdenAt_11 : decode b_M_burdenAt 11 = .ok (.iadd, 1) := by decide +kernel
theorem d_M_burdenAt_12 : decode b_M_burdenAt 12 = .ok (.iaload, 1) := by decide +kernel
theorem d_M_burdenAt_13 : decode b_M_burdenAt 13 = .ok (.if_icmp .ge 18, 3) := by decide +kernel
theorem d_M_burdenAt_16 : decode b_M_burdenAt 16 = .ok (.iload_n 2, 1) := by decide +kernel
theorem d_M_burdenAt_17 : decode b_M_burdenAt 17 = .ok (.aload_n 0, 1) := by decide +kernel
theorem d_M_burdenAt_18 : decode b_M_burdenAt 18 = .ok (.iload_n 1, 1) := by decide +kernel
theorem d_M_burdenAt_19 : decode b_M_burdenAt 19 = .ok (.iload_n 3, 1) := by decide +kernel
theorem d_M_burdenAt_20 : decode b_M_burdenAt 20 = .ok (.invokevirtual 144, 3) := by decide +kernel
theorem d_M_burdenAt_23 : decode b_M_burdenAt 23 = .ok (.iadd, 1) := by decide +kernel
theorem d_M_burdenAt_24 : decode b_M_burdenAt 24 = .ok (.istore_n 2, 1) := by decide +kernel
theorem d_M_burdenAt_25 : decode b_M_burdenAt 25 = .ok (.iinc 3 1, 3) := by decide +kernel
theorem d_M_burdenAt_28 : decode b_M_burdenAt 28 = .ok (.goto (-24), 3) := by decide +kernel
theorem d_M_burdenAt_31 : decode b_M_burdenAt 31 = .ok (.iload_n 2, 1) := by decide +kernel
theorem d_M_burdenAt_32 : decode b_M_burdenAt 32 = .ok (.ireturn, 1) := by decide +kernel
theorem d_M_copy_0 : decode b_M_copy 0 = .ok (.iload_n 1, 1) := by decide +kernel
theorem d_M_copy_1 : decode b_M_copy 1 = .ok (.invokestatic 49, 3) := by decide +kernel
theorem d_M_copy_4 : decode b_M_copy 4 = .ok (.ifCond .eq 10, 3) := by decide +kernel
theorem d_M_copy_7 : decode b_M_copy 7 = .ok (.iload_n 3, 1) := by decide +kernel
theorem d_M_copy_8 : decode b_M_copy 8 = .ok (.invokestatic 49, 3) := by decide +kernel
theorem d_M_copy_11 : decode b_M_copy 11 = .ok (.ifCond .ne 6, 3) := by decide +kernel
theorem d_M_copy_14 : decode b_M_copy 14 = .ok (.ldc 55, 2) := by decide +kernel
theorem d_M_copy_16 : decode b_M_copy 16 = .ok (.ireturn, 1) := by decide +kernel
theorem d_M_copy_17 : decode b_M_copy 17 = .ok (.aload_n 0, 1) := by decide +kernel
theorem d_M_copy_18 : decode b_M_copy 18 = .ok (.getfield 20, 3) := by decide +kernel
theorem d_M_copy_21 : decode b_M_copy 21 = .ok (.iload_n 1, 1) := by decide +kernel
theorem d_M_copy_22 : decode b_M_copy 22 = .ok (.iaload, 1) := by decide +kernel
theorem d_M_copy_23 : decode b_M_copy 23 = .ok (.ifCond .lt 12, 3) := by decide +kernel
theorem d_M_copy_26 : decode b_M_copy 26 = .ok (.aload_n 0, 1) := by decide +kernel
theorem d_M_copy_27 : decode b_M_copy 27 = .ok (.getfield 20, 3) := by decide +kernel
theorem d_M_copy_30 : decode b_M_copy 30 = .ok (.iload_n 3, 1) := by decide +kernel
theorem d_M_copy_31 : decode b_M_copy 31 = .ok (.iaload, 1) := by decide +kernel
theorem d_M_copy_32 : decode b_M_copy 32 = .ok (.ifCond .ge 9, 3) := by decide +kernel
theorem d_M_copy_35 : decode b_M_copy 35 = .ok (.aload_n 0, 1) := by decide +kernel
theorem d_M_copy_36 : decode b_M_copy 36 = .ok (.iconst 1, 1) := by decide +kernel
theorem d_M_copy_37 : decode b_M_copy 37 = .ok (.invokevirtual 56, 3) := by decide +kernel
theorem d_M_copy_40 : decode b_M_copy 40 = .ok (.ireturn, 1) := by decide +kernel
theorem d_M_copy_41 : decode b_M_copy 41 = .ok (.aload_n 0, 1) := by decide +kernel
theorem d_M_copy_42 : decode b_M_copy 42 = .ok (.getfield 17, 3) := by decide +kernel
theorem d_M_copy_45 : decode b_M_copy 45 = .ok (.iload_n 1, 1) := by decide +kernel
theorem d_M_copy_46 : decode b_M_copy 46 = .ok (.iaload, 1) := by decide +kernel
theorem d_M_copy_47 : decode b_M_copy 47 = .ok (.aload_n 0, 1) := by decide +kernel
theorem d_M_copy_48 : decode b_M_copy 48 = .ok (.getfield 17, 3) := by decide +kernel
theorem d_M_copy_51 : decode b_M_copy 51 = .ok (.iload_n 3, 1) := by decide +kernel
theorem d_M_copy_52 : decode b_M_copy 52 = .ok (.iaload, 1) := by decide +kernel
theorem d_M_copy_53 : decode b_M_copy 53 = .ok (.if_icmp .eq 9, 3) := by decide +kernel
theorem d_M_copy_56 : decode b_M_copy 56 = .ok (.aload_n 0, 1) := by decide +kernel
theorem d_M_copy_57 : decode b_M_copy 57 = .ok (.iconst 5, 1) := by decide +kernel
theorem d_M_copy_58 : decode b_M_copy 58 = .ok (.invokevirtual 56, 3) := by decide +kernel
theorem d_M_copy_61 : decode b_M_copy 61 = .ok (.ireturn, 1) := by decide +kernel
theorem d_M_copy_62 : decode b_M_copy 62 = .ok (.aload_n 0, 1) := by decide +kernel
theorem d_M_copy_63 : decode b_M_copy 63 = .ok (.iload_n 1, 1) := by decide +kernel
theorem d_M_copy_64 : decode b_M_copy 64 = .ok (.iload_n 2, 1) := by decide +kernel
theorem d_M_copy_65 : decode b_M_copy 65 = .ok (.iload 5, 2) := by decide +kernel
theorem d_M_copy_67 : decode b_M_copy 67 = .ok (.invokevirtual 67, 3) := by decide +kernel
theorem d_M_copy_70 : decode b_M_copy 70 = .ok (.ifCond .eq 15, 3) := by decide +kernel
theorem d_M_copy_73 : decode b_M_copy 73 = .ok (.aload_n 0, 1) := by decide +kernel
theorem d_M_copy_74 : decode b_M_copy 74 = .ok (.iload_n 3, 1) := by decide +kernel
theorem d_M_copy_75 : decode b_M_copy 75 = .ok (.iload 4, 2) := by decide +kernel
theorem d_M_copy_77 : decode b_M_copy 77 = .ok (.iload 5, 2) := by decide +kernel
theorem d_M_copy_79 : decode b_M_copy 79 = .ok (.invokevirtual 67, 3) := by decide +kernel
theorem d_M_copy_82 : decode b_M_copy 82 = .ok (.ifCond .ne 9, 3) := by decide +kernel
theorem d_M_copy_85 : decode b_M_copy 85 = .ok (.aload_n 0, 1) := by decide +kernel
theorem d_M_copy_86 : decode b_M_copy 86 = .ok (.iconst 2, 1) := by decide +kernel
theorem d_M_copy_87 : decode b_M_copy 87 = .ok (.invokevirtual 56, 3) := by decide +kernel
theorem d_M_copy_90 : decode b_M_copy 90 = .ok (.ireturn, 1) := by decide +kernel
theorem d_M_copy_91 : decode b_M_copy 91 = .ok (.iload_n 2, 1) := by decide +kernel
theorem d_M_copy_92 : decode b_M_copy 92 = .ok (.iload 4, 2) := by decide +kernel
theorem d_M_copy_94 : decode b_M_copy 94 = .ok (.if_icmp .ge 7, 3) := by decide +kernel
theorem d_M_copy_97 : decode b_M_copy 97 = .ok (.iconst 1, 1) := by decide +kernel
theorem d_M_copy_98 : decode b_M_copy 98 = .ok (.goto 4, 3) := by decide +kernel
theorem d_M_copy_101 : decode b_M_copy 101 = .ok (.iconst 0, 1) := by decide +kernel
theorem d_M_copy_102 : decode b_M_copy 102 = .ok (.istore 6, 2) := by decide +kernel
theorem d_M_copy_104 : decode b_M_copy 104 = .ok (.iconst 0, 1) := by decide +kernel
theorem d_M_copy_105 : decode b_M_copy 105 = .ok (.istore 7, 2) := by decide +kernel
theorem d_M_copy_107 : decode b_M_copy 107 = .ok (.iload 7, 2) := by decide +kernel
theorem d_M_copy_109 : decode b_M_copy 109 = .ok (.iload 5, 2) := by decide +kernel
theorem d_M_copy_111 : decode b_M_copy 111 = .ok (.if_icmp .ge 57, 3) := by decide +kernel
theorem d_M_copy_114 : decode b_M_copy 114 = .ok (.iload 6, 2) := by decide +kernel
theorem d_M_copy_116 : decode b_M_copy 116 = .ok (.ifCond .eq 13, 3) := by decide +kernel
theorem d_M_copy_119 : decode b_M_copy 119 = .ok (.iload 5, 2) := by decide +kernel
theorem d_M_copy_121 : decode b_M_copy 121 = .ok (.iconst 1, 1) := by decide +kernel
theorem d_M_copy_122 : decode b_M_copy 122 = .ok (.isub, 1) := by decide +kernel
theorem d_M_copy_123 : decode b_M_copy 123 = .ok (.iload 7, 2) := by decide +kernel
theorem d_M_copy_125 : decode b_M_copy 125 = .ok (.isub, 1) := by decide +kernel
theorem d_M_copy_126 : decode b_M_copy 126 = .ok (.goto 5, 3) := by decide +kernel
theorem d_M_copy_129 : decode b_M_copy 129 = .ok (.iload 7, 2) := by decide +kernel
theorem d_M_copy_131 : decode b_M_copy 131 = .ok (.istore 8, 2) := by decide +kernel
theorem d_M_copy_133 : decode b_M_copy 133 = .ok (.aload_n 0, 1) := by decide +kernel
theorem d_M_copy_134 : decode b_M_copy 134 = .ok (.getfield 23, 3) := by decide +kernel
theorem d_M_copy_137 : decode b_M_copy 137 = .ok (.bipush 40, 2) := by decide +kernel
theorem d_M_copy_139 : decode b_M_copy 139 = .ok (.iload_n 3, 1) := by decide +kernel
theorem d_M_copy_140 : decode b_M_copy 140 = .ok (.imul, 1) := by decide +kernel
theorem d_M_copy_141 : decode b_M_copy 141 = .ok (.iload 4, 2) := by decide +kernel
theorem d_M_copy_143 : decode b_M_copy 143 = .ok (.iadd, 1) := by decide +kernel
theorem d_M_copy_144 : decode b_M_copy 144 = .ok (.iload 8, 2) := by decide +kernel
theorem d_M_copy_146 : decode b_M_copy 146 = .ok (.iadd, 1) := by decide +kernel
theorem d_M_copy_147 : decode b_M_copy 147 = .ok (.aload_n 0, 1) := by decide +kernel
theorem d_M_copy_148 : decode b_M_copy 148 = .ok (.getfield 23, 3) := by decide +kernel
theorem d_M_copy_151 : decode b_M_copy 151 = .ok (.bipush 40, 2) := by decide +kernel
theorem d_M_copy_153 : decode b_M_copy 153 = .ok (.iload_n 1, 1) := by decide +kernel
theorem d_M_copy_154 : decode b_M_copy 154 = .ok (.imul, 1) := by decide +kernel
theorem d_M_copy_155 : decode b_M_copy 155 = .ok (.iload_n 2, 1) := by decide +kernel
theorem d_M_copy_156 : decode b_M_copy 156 = .ok (.iadd, 1) := by decide +kernel
theorem d_M_copy_157 : decode b_M_copy 157 = .ok (.iload 8, 2) := by decide +kernel
theorem d_M_copy_159 : decode b_M_copy 159 = .ok (.iadd, 1) := by decide +kernel
theorem d_M_copy_160 : decode b_M_copy 160 = .ok (.iaload, 1) := by decide +kernel
theorem d_M_copy_161 : decode b_M_copy 161 = .ok (.iastore, 1) := by decide +kernel
theorem d_M_copy_162 : decode b_M_copy 162 = .ok (.iinc 7 1, 3) := by decide +kernel
theorem d_M_copy_165 : decode b_M_copy 165 = .ok (.goto (-58), 3) := by decide +kernel
theorem d_M_copy_168 : decode b_M_copy 168 = .ok (.aload_n 0, 1) := by decide +kernel
theorem d_M_copy_169 : decode b_M_copy 169 = .ok (.iload 5, 2) := by decide +kernel
theorem d_M_copy_171 : decode b_M_copy 171 = .ok (.invokevirtual 60, 3) := by decide +kernel
theorem d_M_copy_174 : decode b_M_copy 174 = .ok (.ireturn, 1) := by decide +kernel
theorem d_M_copyTown_0 : decode b_M_copyTown 0 = .ok (.iconst 0, 1) := by decide +kernel
theorem d_M_copyTown_1 : decode b_M_copyTown 1 = .ok (.istore_n 3, 1) := by decide +kernel
theorem d_M_copyTown_2 : decode b_M_copyTown 2 = .ok (.iload_n 3, 1) := by decide +kernel
theorem d_M_copyTown_3 : decode b_M_copyTown 3 = .ok (.bipush 36, 2) := by decide +kernel
theorem d_M_copyTown_5 : decode b_M_copyTown 5 = .ok (.if_icmp .ge 25, 3) := by decide +kernel
theorem d_M_copyTown_8 : decode b_M_copyTown 8 = .ok (.aload_n 0, 1) := by decide +kernel
theorem d_M_copyTown_9 : decode b_M_copyTown 9 = .ok (.getfield 7, 3) := by decide +kernel
theorem d_M_copyTown_12 : decode b_M_copyTown 12 = .ok (.iload_n 2, 1) := by decide +kernel
theorem d_M_copyTown_13 : decode b_M_copyTown 13 = .ok (.iload_n 3, 1) := by decide +kernel
theorem d_M_copyTown_14 : decode b_M_copyTown 14 = .ok (.iadd, 1) := by decide +kernel
theorem d_M_copyTown_15 : decode b_M_copyTown 15 = .ok (.aload_n 0, 1) := by decide +kernel
theorem d_M_copyTown_16 : decode b_M_copyTown 16 = .ok (.getfield 7, 3) := by decide +kernel
theorem d_M_copyTown_19 : decode b_M_copyTown 19 = .ok (.iload_n 1, 1) := by decide +kernel
theorem d_M_copyTown_20 : decode b_M_copyTown 20 = .ok (.iload_n 3, 1) := by decide +kernel
theorem d_M_copyTown_21 : decode b_M_copyTown 21 = .ok (.iadd, 1) := by decide +kernel
theorem d_M_copyTown_22 : decode b_M_copyTown 22 = .ok (.iaload, 1) := by decide +kernel
theorem d_M_copyTown_23 : decode b_M_copyTown 23 = .ok (.iastore, 1) := by decide +kernel
theorem d_M_copyTown_24 : decode b_M_copyTown 24 = .ok (.iinc 3 1, 3) := by decide +kernel
theorem d_M_copyTown_27 : decode b_M_copyTown 27 = .ok (.goto (-25), 3) := by decide +kernel
theorem d_M_copyTown_30 : decode b_M_copyTown 30 = .ok (.return_, 1) := by decide +kernel
theorem d_M_count_0 : decode b_M_count 0 = .ok (.iconst 0, 1) := by decide +kernel
theorem d_M_count_1 : decode b_M_count 1 = .ok (.istore_n 2, 1) := by decide +kernel
theorem d_M_count_2 : decode b_M_count 2 = .ok (.iload_n 1, 1) := by decide +kernel
theorem d_M_count_3 : decode b_M_count 3 = .ok (.tableswitch 144 0 9 #[53, 86, 93, 100, 107, 113, 120, 125, 130, 137], 53) := by decide +kernel
theorem d_M_count_56 : decode b_M_count 56 = .ok (.iconst 0, 1) := by decide +kernel
theorem d_M_count_57 : decode b_M_count 57 = .ok (.istore_n 3, 1) := by decide +kernel
theorem d_M_count_58 : decode b_M_count 58 = .ok (.iload_n 3, 1) := by decide +kernel
theorem d_M_count_59 : decode b_M_count 59 = .ok (.bipush 8, 2) := by decide +kernel
theorem d_M_count_61 : decode b_M_count 61 = .ok (.if_icmp .ge 26, 3) := by decide +kernel
theorem d_M_count_64 : decode b_M_count 64 = .ok (.iload_n 2, 1) := by decide +kernel
theorem d_M_count_65 : decode b_M_count 65 = .ok (.aload_n 0, 1) := by decide +kernel
theorem d_M_count_66 : decode b_M_count 66 = .ok (.getfield 20, 3) := by decide +kernel
theorem d_M_count_69 : decode b_M_count 69 = .ok (.iload_n 3, 1) := by decide +kernel
theorem d_M_count_70 : decode b_M_count 70 = .ok (.iaload, 1) := by decide +kernel
theorem d_M_count_71 : decode b_M_count 71 = .ok (.ifCond .ge 7, 3) := by decide +kernel
theorem d_M_count_74 : decode b_M_count 74 = .ok (.iconst 0, 1) := by decide +kernel
theorem d_M_count_75 : decode b_M_count 75 = .ok (.goto 4, 3) := by decide +kernel
theorem d_M_count_78 : decode b_M_count 78 = .ok (.iconst 1, 1) := by decide +kernel
theorem d_M_count_79 : decode b_M_count 79 = .ok (.iadd, 1) := by decide +kernel
theorem d_M_count_80 : decode b_M_count 80 = .ok (.istore_n 2, 1) := by decide +kernel
theorem d_M_count_81 : decode b_M_count 81 = .ok (.iinc 3 1, 3) := by decide +kernel
theorem d_M_count_84 : decode b_M_count 84 = .ok (.goto (-26), 3) := by decide +kernel
theorem d_M_count_87 : decode b_M_count 87 = .ok (.iload_n 2, 1) := by decide +kernel
theorem d_M_count_88 : decode b_M_count 88 = .ok (.ireturn, 1) := by decide +kernel
theorem d_M_count_89 : decode b_M_count 89 = .ok (.aload_n 0, 1) := by decide +kernel
theorem d_M_count_90 : decode b_M_count 90 = .ok (.getfield 7, 3) := by decide +kernel
theorem d_M_count_93 : decode b_M_count 93 = .ok (.iconst 0, 1) := by decide +kernel
theorem d_M_count_94 : decode b_M_count 94 = .ok (.iaload, 1) := by decide +kernel
theorem d_M_count_95 : decode b_M_count 95 = .ok (.ireturn, 1) := by decide +kernel
theorem d_M_count_96 : decode b_M_count 96 = .ok (.aload_n 0, 1) := by decide +kernel
theorem d_M_count_97 : decode b_M_count 97 = .ok (.getfield 7, 3) := by decide +kernel
theorem d_M_count_100 : decode b_M_count 100 = .ok (.iconst 2, 1) := by decide +kernel
theorem d_M_count_101 : decode b_M_count 101 = .ok (.iaload, 1) := by decide +kernel
theorem d_M_count_102 : decode b_M_count 102 = .ok (.ireturn, 1) := by decide +kernel
theorem d_M_count_103 : decode b_M_count 103 = .ok (.aload_n 0, 1) := by decide +kernel
theorem d_M_count_104 : decode b_M_count 104 = .ok (.getfield 7, 3) := by decide +kernel
theorem d_M_count_107 : decode b_M_count 107 = .ok (.iconst 3, 1) := by decide +kernel
theorem d_M_count_108 : decode b_M_count 108 = .ok (.iaload, 1) := by decide +kernel
theorem d_M_count_109 : decode b_M_count 109 = .ok (.ireturn, 1) := by decide +kernel
theorem d_M_count_110 : decode b_M_count 110 = .ok (.aload_n 0, 1) := by decide +kernel
theorem d_M_count_111 : decode b_M_count 111 = .ok (.iconst 0, 1) := by decide +kernel
theorem d_M_count_112 : decode b_M_count 112 = .ok (.invokevirtual 151, 3) := by decide +kernel
theorem d_M_count_115 : decode b_M_count 115 = .ok (.ireturn, 1) := by decide +kernel
theorem d_M_count_116 : decode b_M_count 116 = .ok (.aload_n 0, 1) := by decide +kernel
theorem d_M_count_117 : decode b_M_count 117 = .ok (.getfield 7, 3) := by decide +kernel
theorem d_M_count_120 : decode b_M_count 120 = .ok (.iconst 4, 1) := by decide +kernel
theorem d_M_count_121 : decode b_M_count 121 = .ok (.iaload, 1) := by decide +kernel
theorem d_M_count_122 : decode b_M_count 122 = .ok (.ireturn, 1) := by decide +kernel
theorem d_M_count_123 : decode b_M_count 123 = .ok (.aload_n 0, 1) := by decide +kernel
theorem d_M_count_124 : decode b_M_count 124 = .ok (.getfield 134, 3) := by decide +kernel
theorem d_M_count_127 : decode b_M_count 127 = .ok (.ireturn, 1) := by decide +kernel
theorem d_M_count_128 : decode b_M_count 128 = .ok (.aload_n 0, 1) := by decide +kernel
theorem d_M_count_129 : decode b_M_count 129 = .ok (.getfield 73, 3) := by decide +kernel
theorem d_M_count_132 : decode b_M_count 132 = .ok (.ireturn, 1) := by decide +kernel
theorem d_M_count_133 : decode b_M_count 133 = .ok (.aload_n 0, 1) := by decide +kernel
theorem d_M_count_134 : decode b_M_count 134 = .ok (.getfield 7, 3) := by decide +kernel
theorem d_M_count_137 : decode b_M_count 137 = .ok (.iconst 5, 1) := by decide +kernel
theorem d_M_count_138 : decode b_M_count 138 = .ok (.iaload, 1) := by decide +kernel
theorem d_M_count_139 : decode b_M_count 139 = .ok (.ireturn, 1) := by decide +kernel
theorem d_M_count_140 : decode b_M_count 140 = .ok (.aload_n 0, 1) := by decide +kernel
theorem d_M_count_141 : decode b_M_count 141 = .ok (.getfield 7, 3) := by decide +kernel
theorem d_M_count_144 : decode b_M_count 144 = .ok (.iconst 1, 1) := by decide +kernel
theorem d_M_count_145 : decode b_M_count 145 = .ok (.iaload, 1) := by decide +kernel
theorem d_M_count_146 : decode b_M_count 146 = .ok (.ireturn, 1) := by decide +kernel
theorem d_M_count_147 : decode b_M_count 147 = .ok (.ldc 55, 2) := by decide +kernel
theorem d_M_count_149 : decode b_M_count 149 = .ok (.ireturn, 1) := by decide +kernel
theorem d_M_days_0 : decode b_M_days 0 = .ok (.aload_n 0, 1) := by decide +kernel
theorem d_M_days_1 : decode b_M_days 1 = .ok (.getfield 130, 3) := by decide +kernel
theorem d_M_days_4 : decode b_M_days 4 = .ok (.ifCond .ne 6, 3) := by decide +kernel
theorem d_M_days_7 : decode b_M_days 7 = .ok (.ldc 137, 2) := by decide +kernel
theorem d_M_days_9 : decode b_M_days 9 = .ok (.ireturn, 1) := by decide +kernel
theorem d_M_days_10 : decode b_M_days 10 = .ok (.iload_n 1, 1) := by decide +kernel
theorem d_M_days_11 : decode b_M_days 11 = .ok (.i2l, 1) := by decide +kernel
theorem d_M_days_12 : decode b_M_days 12 = .ok (.lconst 1, 1) := by decide +kernel
theorem d_M_days_13 : decode b_M_days 13 = .ok (.ldc2_w 170, 3) := by decide +kernel
theorem d_M_days_16 : decode b_M_days 16 = .ok (.invokestatic 45, 3) := by decide +kernel
theorem d_M_days_19 : decode b_M_days 19 = .ok (.ifCond .ne 6, 3) := by decide +kernel
theorem d_M_days_22 : decode b_M_days 22 = .ok (.ldc 55, 2) := by decide +kernel
theorem d_M_days_24 : decode b_M_days 24 = .ok (.ireturn, 1) := by decide +kernel
theorem d_M_days_25 : decode b_M_days 25 = .ok (.aload_n 0, 1) := by decide +kernel
theorem d_M_days_26 : decode b_M_days 26 = .ok (.getfield 7, 3) := by decide +kernel
theorem d_M_days_29 : decode b_M_days 29 = .ok (.iconst 2, 1) := by decide +kernel
theorem d_M_days_30 : decode b_M_days 30 = .ok (.iaload, 1) := by decide +kernel
theorem d_M_days_31 : decode b_M_days 31 = .ok (.iload_n 1, 1) := by decide +kernel
theorem d_M_days_32 : decode b_M_days 32 = .ok (.iadd, 1) := by decide +kernel
theorem d_M_days_33 : decode b_M_days 33 = .ok (.sipush 999, 3) := by decide +kernel
theorem d_M_days_36 : decode b_M_days 36 = .ok (.if_icmp .le 6, 3) := by decide +kernel
theorem d_M_days_39 : decode b_M_days 39 = .ok (.ldc 76, 2) := by decide +kernel
theorem d_M_days_41 : decode b_M_days 41 = .ok (.ireturn, 1) := by decide +kernel
theorem d_M_days_42 : decode b_M_days 42 = .ok (.iconst 0, 1) := by decide +kernel
theorem d_M_days_43 : decode b_M_days 43 = .ok (.istore_n 2, 1) := by decide +kernel
theorem d_M_days_44 : decode b_M_days 44 = .ok (.iload_n 2, 1) := by decide +kernel
theorem d_M_days_45 : decode b_M_days 45 = .ok (.iload_n 1, 1) := by decide +kernel
theorem d_M_days_46 : decode b_M_days 46 = .ok (.if_icmp .ge 19, 3) := by decide +kernel
theorem d_M_days_49 : decode b_M_days 49 = .ok (.aload_n 0, 1) := by decide +kernel
theorem d_M_days_50 : decode b_M_days 50 = .ok (.invokevirtual 172, 3) := by decide +kernel
theorem d_M_days_53 : decode b_M_days 53 = .ok (.aload_n 0, 1) := by decide +kernel
theorem d_M_days_54 : decode b_M_days 54 = .ok (.iconst 0, 1) := by decide +kernel
theorem d_M_days_55 : decode b_M_days 55 = .ok (.invokevirtual 167, 3) := by decide +kernel
theorem d_M_days_58 : decode b_M_days 58 = .ok (.pop, 1) := by decide +kernel
theorem d_M_days_59 : decode b_M_days 59 = .ok (.iinc 2 1, 3) := by decide +kernel
theorem d_M_days_62 : decode b_M_days 62 = .ok (.goto (-18), 3) := by decide +kernel
theorem d_M_days_65 : decode b_M_days 65 = .ok (.aload_n 0, 1) := by decide +kernel
theorem d_M_days_66 : decode b_M_days 66 = .ok (.getfield 7, 3) := by decide +kernel
theorem d_M_days_69 : decode b_M_days 69 = .ok (.iconst 3, 1) := by decide +kernel
theorem d_M_days_70 : decode b_M_days 70 = .ok (.iaload, 1) := by decide +kernel
theorem d_M_days_71 : decode b_M_days 71 = .ok (.ireturn, 1) := by decide +kernel
theorem d_M_drawn_0 : decode b_M_drawn 0 = .ok (.aload_n 0, 1) := by decide +kernel
theorem d_M_drawn_1 : decode b_M_drawn 1 = .ok (.getfield 130, 3) := by decide +kernel
theorem d_M_drawn_4 : decode b_M_drawn 4 = .ok (.ifCond .ne 6, 3) := by decide +kernel
theorem d_M_drawn_7 : decode b_M_drawn 7 = .ok (.ldc 137, 2) := by decide +kernel
theorem d_M_drawn_9 : decode b_M_drawn 9 = .ok (.ireturn, 1) := by decide +kernel
theorem d_M_drawn_10 : decode b_M_drawn 10 = .ok (.iload_n 1, 1) := by decide +kernel
theorem d_M_drawn_11 : decode b_M_drawn 11 = .ok (.i2l, 1) := by decide +kernel
theorem d_M_drawn_12 : decode b_M_drawn 12 = .ok (.lconst 0, 1) := by decide +kernel
theorem d_M_drawn_13 : decode b_M_drawn 13 = .ok (.ldc2_w 186, 3) := by decide +kernel
theorem d_M_drawn_16 : decode b_M_drawn 16 = .ok (.invokestatic 45, 3) := by decide +kernel
theorem d_M_drawn_19 : decode b_M_drawn 19 = .ok (.ifCond .eq 25, 3) := by decide +kernel
theorem d_M_drawn_22 : decode b_M_drawn 22 = .ok (.iload_n 2, 1) := by decide +kernel
theorem d_M_drawn_23 : decode b_M_drawn 23 = .ok (.i2l, 1) := by decide +kernel
theorem d_M_drawn_24 : decode b_M_drawn 24 = .ok (.lconst 1, 1) := by decide +kernel
theorem d_M_drawn_25 : decode b_M_drawn 25 = .ok (.ldc2_w 236, 3) := by decide +kernel
theorem d_M_drawn_28 : decode b_M_drawn 28 = .ok (.invokestatic 45, 3) := by decide +kernel
theorem d_M_drawn_31 : decode b_M_drawn 31 = .ok (.ifCond .eq 13, 3) := by decide +kernel
theorem d_M_drawn_34 : decode b_M_drawn 34 = .ok (.iload_n 3, 1) := by decide +kernel
theorem d_M_drawn_35 : decode b_M_drawn 35 = .ok (.i2l, 1) := by decide +kernel
theorem d_M_drawn_36 : decode b_M_drawn 36 = .ok (.lconst 0, 1) := by decide +kernel
theorem d_M_drawn_37 : decode b_M_drawn 37 = .ok (.lconst 1, 1) := by decide +kernel
theorem d_M_drawn_38 : decode b_M_drawn 38 = .ok (.invokestatic 45, 3) := by decide +kernel
theorem d_M_drawn_41 : decode b_M_drawn 41 = .ok (.ifCond .ne 6, 3) := by decide +kernel
theorem d_M_drawn_44 : decode b_M_drawn 44 = .ok (.ldc 55, 2) := by decide +kernel
theorem d_M_drawn_46 : decode b_M_drawn 46 = .ok (.ireturn, 1) := by decide +kernel
theorem d_M_drawn_47 : decode b_M_drawn 47 = .ok (.aload_n 0, 1) := by decide +kernel
theorem d_M_drawn_48 : decode b_M_drawn 48 = .ok (.invokevirtual 188, 3) := by decide +kernel
theorem d_M_drawn_51 : decode b_M_drawn 51 = .ok (.iload_n 2, 1) := by decide +kernel
theorem d_M_drawn_52 : decode b_M_drawn 52 = .ok (.i2l, 1) := by decide +kernel
theorem d_M_drawn_53 : decode b_M_drawn 53 = .ok (.lstore 4, 2) := by decide +kernel
theorem d_M_drawn_55 : decode b_M_drawn 55 = .ok (.iconst 0, 1) := by decide +kernel
theorem d_M_drawn_56 : decode b_M_drawn 56 = .ok (.istore 6, 2) := by decide +kernel
theorem d_M_drawn_58 : decode b_M_drawn 58 = .ok (.iload 6, 2) := by decide +kernel
theorem d_M_drawn_60 : decode b_M_drawn 60 = .ok (.iload_n 1, 1) := by decide +kernel
theorem d_M_drawn_61 : decode b_M_drawn 61 = .ok (.if_icmp .ge 132, 3) := by decide +kernel
theorem d_M_drawn_64 : decode b_M_drawn 64 = .ok (.lload 4, 2) := by decide +kernel
theorem d_M_drawn_66 : decode b_M_drawn 66 = .ok (.ldc2_w 238, 3) := by decide +kernel
theorem d_M_drawn_69 : decode b_M_drawn 69 = .ok (.lmul, 1) := by decide +kernel
theorem d_M_drawn_70 : decode b_M_drawn 70 = .ok (.ldc2_w 240, 3) := by decide +kernel
theorem d_M_drawn_73 : decode b_M_drawn 73 = .ok (.lrem, 1) := by decide +kernel
theorem d_M_drawn_74 : decode b_M_drawn 74 = .ok (.lstore 4, 2) := by decide +kernel
theorem d_M_drawn_76 : decode b_M_drawn 76 = .ok (.aload_n 0, 1) := by decide +kernel
theorem d_M_drawn_77 : decode b_M_drawn 77 = .ok (.getfield 7, 3) := by decide +kernel
theorem d_M_drawn_80 : decode b_M_drawn 80 = .ok (.iconst 0, 1) := by decide +kernel
theorem d_M_drawn_81 : decode b_M_drawn 81 = .ok (.iaload, 1) := by decide +kernel
theorem d_M_drawn_82 : decode b_M_drawn 82 = .ok (.ifCond .ne 7, 3) := by decide +kernel
theorem d_M_drawn_85 : decode b_M_drawn 85 = .ok (.iconst 0, 1) := by decide +kernel
theorem d_M_drawn_86 : decode b_M_drawn 86 = .ok (.goto 14, 3) := by decide +kernel
theorem d_M_drawn_89 : decode b_M_drawn 89 = .ok (.lload 4, 2) := by decide +kernel
theorem d_M_drawn_91 : decode b_M_drawn 91 = .ok (.aload_n 0, 1) := by decide +kernel
theorem d_M_drawn_92 : decode b_M_drawn 92 = .ok (.getfield 7, 3) := by decide +kernel
theorem d_M_drawn_95 : decode b_M_drawn 95 = .ok (.iconst 0, 1) := by decide +kernel
theorem d_M_drawn_96 : decode b_M_drawn 96 = .ok (.iaload, 1) := by decide +kernel
theorem d_M_drawn_97 : decode b_M_drawn 97 = .ok (.i2l, 1) := by decide +kernel
theorem d_M_drawn_98 : decode b_M_drawn 98 = .ok (.lrem, 1) := by decide +kernel
theorem d_M_drawn_99 : decode b_M_drawn 99 = .ok (.l2i, 1) := by decide +kernel
theorem d_M_drawn_100 : decode b_M_drawn 100 = .ok (.istore 7, 2) := by decide +kernel
theorem d_M_drawn_102 : decode b_M_drawn 102 = .ok (.aload_n 0, 1) := by decide +kernel
theorem d_M_drawn_103 : decode b_M_drawn 103 = .ok (.getfield 7, 3) := by decide +kernel
theorem d_M_drawn_106 : decode b_M_drawn 106 = .ok (.sipush 975, 3) := by decide +kernel
theorem d_M_drawn_109 : decode b_M_drawn 109 = .ok (.iaload, 1) := by decide +kernel
theorem d_M_drawn_110 : decode b_M_drawn 110 = .ok (.iload 7, 2) := by decide +kernel
theorem d_M_drawn_112 : decode b_M_drawn 112 = .ok (.invokestatic 138, 3) := by decide +kernel
theorem d_M_drawn_115 : decode b_M_drawn 115 = .ok (.istore 8, 2) := by decide +kernel
theorem d_M_drawn_117 : decode b_M_drawn 117 = .ok (.lload 4, 2) := by decide +kernel
theorem d_M_drawn_119 : decode b_M_drawn 119 = .ok (.ldc2_w 242, 3) := by decide +kernel
theorem d_M_drawn_122 : decode b_M_drawn 122 = .ok (.lrem, 1) := by decide +kernel
theorem d_M_drawn_123 : decode b_M_drawn 123 = .ok (.lconst 0, 1) := by decide +kernel
theorem d_M_drawn_124 : decode b_M_drawn 124 = .ok (.lcmp, 1) := by decide +kernel
theorem d_M_drawn_125 : decode b_M_drawn 125 = .ok (.ifCond .ne 20, 3) := by decide +kernel
theorem d_M_drawn_128 : decode b_M_drawn 128 = .ok (.iload 8, 2) := by decide +kernel
theorem d_M_drawn_130 : decode b_M_drawn 130 = .ok (.ifCond .eq 15, 3) := by decide +kernel
theorem d_M_drawn_133 : decode b_M_drawn 133 = .ok (.aload_n 0, 1) := by decide +kernel
theorem d_M_drawn_134 : decode b_M_drawn 134 = .ok (.sipush 972, 3) := by decide +kernel
theorem d_M_drawn_137 : decode b_M_drawn 137 = .ok (.iload 7, 2) := by decide +kernel
theorem d_M_drawn_139 : decode b_M_drawn 139 = .ok (.invokevirtual 178, 3) := by decide +kernel
theorem d_M_drawn_142 : decode b_M_drawn 142 = .ok (.goto 37, 3) := by decide +kernel
theorem d_M_drawn_145 : decode b_M_drawn 145 = .ok (.lload 4, 2) := by decide +kernel
theorem d_M_drawn_147 : decode b_M_drawn 147 = .ok (.ldc2_w 242, 3) := by decide +kernel
theorem d_M_drawn_150 : decode b_M_drawn 150 = .ok (.lrem, 1) := by decide +kernel
theorem d_M_drawn_151 : decode b_M_drawn 151 = .ok (.lconst 1, 1) := by decide +kernel
theorem d_M_drawn_152 : decode b_M_drawn 152 = .ok (.lcmp, 1) := by decide +kernel
theorem d_M_drawn_153 : decode b_M_drawn 153 = .ok (.ifCond .ne 26, 3) := by decide +kernel
theorem d_M_drawn_156 : decode b_M_drawn 156 = .ok (.iload 8, 2) := by decide +kernel
theorem d_M_drawn_158 : decode b_M_drawn 158 = .ok (.ifCond .ne 21, 3) := by decide +kernel
theorem d_M_drawn_161 : decode b_M_drawn 161 = .ok (.aload_n 0, 1) := by decide +kernel
theorem d_M_drawn_162 : decode b_M_drawn 162 = .ok (.getfield 7, 3) := by decide +kernel
theorem d_M_drawn_165 : decode b_M_drawn 165 = .ok (.iconst 0, 1) := by decide +kernel
theorem d_M_drawn_166 : decode b_M_drawn 166 = .ok (.iaload, 1) := by decide +kernel
theorem d_M_drawn_167 : decode b_M_drawn 167 = .ok (.ifCond .le 12, 3) := by decide +kernel
theorem d_M_drawn_170 : decode b_M_drawn 170 = .ok (.aload_n 0, 1) := by decide +kernel
theorem d_M_drawn_171 : decode b_M_drawn 171 = .ok (.sipush 972, 3) := by decide +kernel
theorem d_M_drawn_174 : decode b_M_drawn 174 = .ok (.iload 7, 2) := by decide +kernel
theorem d_M_drawn_176 : decode b_M_drawn 176 = .ok (.invokevirtual 181, 3) := by decide +kernel
theorem d_M_drawn_179 : decode b_M_drawn 179 = .ok (.aload_n 0, 1) := by decide +kernel
theorem d_M_drawn_180 : decode b_M_drawn 180 = .ok (.sipush 972, 3) := by decide +kernel
theorem d_M_drawn_183 : decode b_M_drawn 183 = .ok (.invokevirtual 167, 3) := by decide +kernel
theorem d_M_drawn_186 : decode b_M_drawn 186 = .ok (.pop, 1) := by decide +kernel
theorem d_M_drawn_187 : decode b_M_drawn 187 = .ok (.iinc 6 1, 3) := by decide +kernel
theorem d_M_drawn_190 : decode b_M_drawn 190 = .ok (.goto (-132), 3) := by decide +kernel
theorem d_M_drawn_193 : decode b_M_drawn 193 = .ok (.aload_n 0, 1) := by decide +kernel
theorem d_M_drawn_194 : decode b_M_drawn 194 = .ok (.getfield 7, 3) := by decide +kernel
theorem d_M_drawn_197 : decode b_M_drawn 197 = .ok (.sipush 972, 3) := by decide +kernel
theorem d_M_drawn_200 : decode b_M_drawn 200 = .ok (.iload_n 3, 1) := by decide +kernel
theorem d_M_drawn_201 : decode b_M_drawn 201 = .ok (.ifCond .ne 7, 3) := by decide +kernel
theorem d_M_drawn_204 : decode b_M_drawn 204 = .ok (.iconst 4, 1) := by decide +kernel
theorem d_M_drawn_205 : decode b_M_drawn 205 = .ok (.goto 4, 3) := by decide +kernel
theorem d_M_drawn_208 : decode b_M_drawn 208 = .ok (.iconst 5, 1) := by decide +kernel
theorem d_M_drawn_209 : decode b_M_drawn 209 = .ok (.iadd, 1) := by decide +kernel
theorem d_M_drawn_210 : decode b_M_drawn 210 = .ok (.iaload, 1) := by decide +kernel
theorem d_M_drawn_211 : decode b_M_drawn 211 = .ok (.ireturn, 1) := by decide +kernel
theorem d_M_dread_0 : decode b_M_dread 0 = .ok (.aload_n 0, 1) := by decide +kernel
theorem d_M_dread_1 : decode b_M_dread 1 = .ok (.iload_n 1, 1) := by decide +kernel
theorem d_M_dread_2 : decode b_M_dread 2 = .ok (.invokevirtual 175, 3) := by decide +kernel
theorem d_M_dread_5 : decode b_M_dread 5 = .ok (.ifCond .eq 15, 3) := by decide +kernel
theorem d_M_dread_8 : decode b_M_dread 8 = .ok (.iload_n 2, 1) := by decide +kernel
theorem d_M_dread_9 : decode b_M_dread 9 = .ok (.i2l, 1) := by decide +kernel
theorem d_M_dread_10 : decode b_M_dread 10 = .ok (.lconst 0, 1) := by decide +kernel
theorem d_M_dread_11 : decode b_M_dread 11 = .ok (.ldc2_w 184, 3) := by decide +kernel
theorem d_M_dread_14 : decode b_M_dread 14 = .ok (.invokestatic 45, 3) := by decide +kernel
theorem d_M_dread_17 : decode b_M_dread 17 = .ok (.ifCond .ne 6, 3) := by decide +kernel
theorem d_M_dread_20 : decode b_M_dread 20 = .ok (.ldc 55, 2) := by decide +kernel
theorem d_M_dread_22 : decode b_M_dread 22 = .ok (.ireturn, 1) := by decide +kernel
theorem d_M_dread_23 : decode b_M_dread 23 = .ok (.aload_n 0, 1) := by decide +kernel
theorem d_M_dread_24 : decode b_M_dread 24 = .ok (.invokevirtual 172, 3) := by decide +kernel
theorem d_M_dread_27 : decode b_M_dread 27 = .ok (.aload_n 0, 1) := by decide +kernel
theorem d_M_dread_28 : decode b_M_dread 28 = .ok (.getfield 7, 3) := by decide +kernel
theorem d_M_dread_31 : decode b_M_dread 31 = .ok (.bipush 12, 2) := by decide +kernel
theorem d_M_dread_33 : decode b_M_dread 33 = .ok (.iload_n 1, 1) := by decide +kernel
theorem d_M_dread_34 : decode b_M_dread 34 = .ok (.iadd, 1) := by decide +kernel
theorem d_M_dread_35 : decode b_M_dread 35 = .ok (.iaload, 1) := by decide +kernel
theorem d_M_dread_36 : decode b_M_dread 36 = .ok (.istore_n 3, 1) := by decide +kernel
theorem d_M_dread_37 : decode b_M_dread 37 = .ok (.aload_n 0, 1) := by decide +kernel
theorem d_M_dread_38 : decode b_M_dread 38 = .ok (.getfield 7, 3) := by decide +kernel
theorem d_M_dread_41 : decode b_M_dread 41 = .ok (.bipush 12, 2) := by decide +kernel
theorem d_M_dread_43 : decode b_M_dread 43 = .ok (.iload_n 1, 1) := by decide +kernel
theorem d_M_dread_44 : decode b_M_dread 44 = .ok (.iadd, 1) := by decide +kernel
theorem d_M_dread_45 : decode b_M_dread 45 = .ok (.iload_n 2, 1) := by decide +kernel
theorem d_M_dread_46 : decode b_M_dread 46 = .ok (.iastore, 1) := by decide +kernel
theorem d_M_dread_47 : decode b_M_dread 47 = .ok (.iload_n 3, 1) := by decide +kernel
theorem d_M_dread_48 : decode b_M_dread 48 = .ok (.ireturn, 1) := by decide +kernel
theorem d_M_drop_0 : decode b_M_drop 0 = .ok (.iload_n 1, 1) := by decide +kernel
theorem d_M_drop_1 : decode b_M_drop 1 = .ok (.invokestatic 49, 3) := by decide +kernel
theorem d_M_drop_4 : decode b_M_drop 4 = .ok (.ifCond .ne 6, 3) := by decide +kernel
theorem d_M_drop_7 : decode b_M_drop 7 = .ok (.ldc 55, 2) := by decide +kernel
theorem d_M_drop_9 : decode b_M_drop 9 = .ok (.ireturn, 1) := by decide +kernel
theorem d_M_drop_10 : decode b_M_drop 10 = .ok (.aload_n 0, 1) := by decide +kernel
theorem d_M_drop_11 : decode b_M_drop 11 = .ok (.getfield 20, 3) := by decide +kernel
theorem d_M_drop_14 : decode b_M_drop 14 = .ok (.iload_n 1, 1) := by decide +kernel
theorem d_M_drop_15 : decode b_M_drop 15 = .ok (.iaload, 1) := by decide +kernel
theorem d_M_drop_16 : decode b_M_drop 16 = .ok (.ifCond .ge 9, 3) := by decide +kernel
theorem d_M_drop_19 : decode b_M_drop 19 = .ok (.aload_n 0, 1) := by decide +kernel
theorem d_M_drop_20 : decode b_M_drop 20 = .ok (.iconst 1, 1) := by decide +kernel
theorem d_M_drop_21 : decode b_M_drop 21 = .ok (.invokevirtual 56, 3) := by decide +kernel
theorem d_M_drop_24 : decode b_M_drop 24 = .ok (.ireturn, 1) := by decide +kernel
theorem d_M_drop_25 : decode b_M_drop 25 = .ok (.aload_n 0, 1) := by decide +kernel
theorem d_M_drop_26 : decode b_M_drop 26 = .ok (.getfield 20, 3) := by decide +kernel
theorem d_M_drop_29 : decode b_M_drop 29 = .ok (.iload_n 1, 1) := by decide +kernel
theorem d_M_drop_30 : decode b_M_drop 30 = .ok (.iaload, 1) := by decide +kernel
theorem d_M_drop_31 : decode b_M_drop 31 = .ok (.istore_n 2, 1) := by decide +kernel
theorem d_M_drop_32 : decode b_M_drop 32 = .ok (.aload_n 0, 1) := by decide +kernel
theorem d_M_drop_33 : decode b_M_drop 33 = .ok (.getfield 20, 3) := by decide +kernel
theorem d_M_drop_36 : decode b_M_drop 36 = .ok (.iload_n 1, 1) := by decide +kernel
theorem d_M_drop_37 : decode b_M_drop 37 = .ok (.iconst (-1), 1) := by decide +kernel
theorem d_M_drop_38 : decode b_M_drop 38 = .ok (.iastore, 1) := by decide +kernel
theorem d_M_drop_39 : decode b_M_drop 39 = .ok (.aload_n 0, 1) := by decide +kernel
theorem d_M_drop_40 : decode b_M_drop 40 = .ok (.iload_n 2, 1) := by decide +kernel
theorem d_M_drop_41 : decode b_M_drop 41 = .ok (.invokevirtual 60, 3) := by decide +kernel
theorem d_M_drop_44 : decode b_M_drop 44 = .ok (.ireturn, 1) := by decide +kernel
theorem d_M_ease_0 : decode b_M_ease 0 = .ok (.aload_n 0, 1) := by decide +kernel
theorem d_M_ease_1 : decode b_M_ease 1 = .ok (.getfield 130, 3) := by decide +kernel
theorem d_M_ease_4 : decode b_M_ease 4 = .ok (.ifCond .ne 6, 3) := by decide +kernel
theorem d_M_ease_7 : decode b_M_ease 7 = .ok (.ldc 137, 2) := by decide +kernel
theorem d_M_ease_9 : decode b_M_ease 9 = .ok (.ireturn, 1) := by decide +kernel
theorem d_M_ease_10 : decode b_M_ease 10 = .ok (.iload_n 1, 1) := by decide +kernel
theorem d_M_ease_11 : decode b_M_ease 11 = .ok (.i2l, 1) := by decide +kernel
theorem d_M_ease_12 : decode b_M_ease 12 = .ok (.lconst 1, 1) := by decide +kernel
theorem d_M_ease_13 : decode b_M_ease 13 = .ok (.ldc2_w 186, 3) := by decide +kernel
theorem d_M_ease_16 : decode b_M_ease 16 = .ok (.invokestatic 45, 3) := by decide +kernel
theorem d_M_ease_19 : decode b_M_ease 19 = .ok (.ifCond .eq 25, 3) := by decide +kernel
theorem d_M_ease_22 : decode b_M_ease 22 = .ok (.iload_n 2, 1) := by decide +kernel
theorem d_M_ease_23 : decode b_M_ease 23 = .ok (.i2l, 1) := by decide +kernel
theorem d_M_ease_24 : decode b_M_ease 24 = .ok (.lconst 0, 1) := by decide +kernel
theorem d_M_ease_25 : decode b_M_ease 25 = .ok (.ldc2_w 223, 3) := by decide +kernel
theorem d_M_ease_28 : decode b_M_ease 28 = .ok (.invokestatic 45, 3) := by decide +kernel
theorem d_M_ease_31 : decode b_M_ease 31 = .ok (.ifCond .eq 13, 3) := by decide +kernel
theorem d_M_ease_34 : decode b_M_ease 34 = .ok (.iload_n 3, 1) := by decide +kernel
theorem d_M_ease_35 : decode b_M_ease 35 = .ok (.i2l, 1) := by decide +kernel
theorem d_M_ease_36 : decode b_M_ease 36 = .ok (.lconst 0, 1) := by decide +kernel
theorem d_M_ease_37 : decode b_M_ease 37 = .ok (.lconst 1, 1) := by decide +kernel
theorem d_M_ease_38 : decode b_M_ease 38 = .ok (.invokestatic 45, 3) := by decide +kernel
theorem d_M_ease_41 : decode b_M_ease 41 = .ok (.ifCond .ne 6, 3) := by decide +kernel
theorem d_M_ease_44 : decode b_M_ease 44 = .ok (.ldc 55, 2) := by decide +kernel
theorem d_M_ease_46 : decode b_M_ease 46 = .ok (.ireturn, 1) := by decide +kernel
theorem d_M_ease_47 : decode b_M_ease 47 = .ok (.aload_n 0, 1) := by decide +kernel
theorem d_M_ease_48 : decode b_M_ease 48 = .ok (.iload_n 1, 1) := by decide +kernel
theorem d_M_ease_49 : decode b_M_ease 49 = .ok (.iload_n 2, 1) := by decide +kernel
theorem d_M_ease_50 : decode b_M_ease 50 = .ok (.invokevirtual 220, 3) := by decide +kernel
theorem d_M_ease_53 : decode b_M_ease 53 = .ok (.istore 4, 2) := by decide +kernel
theorem d_M_ease_55 : decode b_M_ease 55 = .ok (.iload_n 3, 1) := by decide +kernel
theorem d_M_ease_56 : decode b_M_ease 56 = .ok (.ifCond .ne 11, 3) := by decide +kernel
theorem d_M_ease_59 : decode b_M_ease 59 = .ok (.iload 4, 2) := by decide +kernel
theorem d_M_ease_61 : decode b_M_ease 61 = .ok (.invokestatic 141, 3) := by decide +kernel
theorem d_M_ease_64 : decode b_M_ease 64 = .ok (.goto 5, 3) := by decide +kernel
theorem d_M_ease_67 : decode b_M_ease 67 = .ok (.iload 4, 2) := by decide +kernel
theorem d_M_ease_69 : decode b_M_ease 69 = .ok (.ireturn, 1) := by decide +kernel
theorem d_M_eases_0 : decode b_M_eases 0 = .ok (.aload_n 0, 1) := by decide +kernel
theorem d_M_eases_1 : decode b_M_eases 1 = .ok (.iload_n 1, 1) := by decide +kernel
theorem d_M_eases_2 : decode b_M_eases 2 = .ok (.invokevirtual 210, 3) := by decide +kernel
theorem d_M_eases_5 : decode b_M_eases 5 = .ok (.aload_n 0, 1) := by decide +kernel
theorem d_M_eases_6 : decode b_M_eases 6 = .ok (.sipush 972, 3) := by decide +kernel
theorem d_M_eases_9 : decode b_M_eases 9 = .ok (.invokevirtual 157, 3) := by decide +kernel
theorem d_M_eases_12 : decode b_M_eases 12 = .ok (.iload_n 3, 1) := by decide +kernel
theorem d_M_eases_13 : decode b_M_eases 13 = .ok (.if_icmp .gt 7, 3) := by decide +kernel
theorem d_M_eases_16 : decode b_M_eases 16 = .ok (.iconst 1, 1) := by decide +kernel
theorem d_M_eases_17 : decode b_M_eases 17 = .ok (.goto 4, 3) := by decide +kernel
theorem d_M_eases_20 : decode b_M_eases 20 = .ok (.iconst 0, 1) := by decide +kernel
theorem d_M_eases_21 : decode b_M_eases 21 = .ok (.istore 4, 2) := by decide +kernel
theorem d_M_eases_23 : decode b_M_eases 23 = .ok (.iconst 1, 1) := by decide +kernel
theorem d_M_eases_24 : decode b_M_eases 24 = .ok (.istore 5, 2) := by decide +kernel
theorem d_M_eases_26 : decode b_M_eases 26 = .ok (.iload 5, 2) := by decide +kernel
theorem d_M_eases_28 : decode b_M_eases 28 = .ok (.iload_n 2, 1) := by decide +kernel
theorem d_M_eases_29 : decode b_M_eases 29 = .ok (.if_icmp .ge 40, 3) := by decide +kernel
theorem d_M_eases_32 : decode b_M_eases 32 = .ok (.iload 4, 2) := by decide +kernel
theorem d_M_eases_34 : decode b_M_eases 34 = .ok (.ifCond .eq 35, 3) := by decide +kernel
theorem d_M_eases_37 : decode b_M_eases 37 = .ok (.aload_n 0, 1) := by decide +kernel
theorem d_M_eases_38 : decode b_M_eases 38 = .ok (.sipush 972, 3) := by decide +kernel
theorem d_M_eases_41 : decode b_M_eases 41 = .ok (.invokevirtual 167, 3) := by decide +kernel
theorem d_M_eases_44 : decode b_M_eases 44 = .ok (.pop, 1) := by decide +kernel
theorem d_M_eases_45 : decode b_M_eases 45 = .ok (.aload_n 0, 1) := by decide +kernel
theorem d_M_eases_46 : decode b_M_eases 46 = .ok (.sipush 972, 3) := by decide +kernel
theorem d_M_eases_49 : decode b_M_eases 49 = .ok (.invokevirtual 157, 3) := by decide +kernel
theorem d_M_eases_52 : decode b_M_eases 52 = .ok (.iload_n 3, 1) := by decide +kernel
theorem d_M_eases_53 : decode b_M_eases 53 = .ok (.if_icmp .gt 7, 3) := by decide +kernel
theorem d_M_eases_56 : decode b_M_eases 56 = .ok (.iconst 1, 1) := by decide +kernel
theorem d_M_eases_57 : decode b_M_eases 57 = .ok (.goto 4, 3) := by decide +kernel
theorem d_M_eases_60 : decode b_M_eases 60 = .ok (.iconst 0, 1) := by decide +kernel
theorem d_M_eases_61 : decode b_M_eases 61 = .ok (.istore 4, 2) := by decide +kernel
theorem d_M_eases_63 : decode b_M_eases 63 = .ok (.iinc 5 1, 3) := by decide +kernel
theorem d_M_eases_66 : decode b_M_eases 66 = .ok (.goto (-40), 3) := by decide +kernel
theorem d_M_eases_69 : decode b_M_eases 69 = .ok (.iload 4, 2) := by decide +kernel
theorem d_M_eases_71 : decode b_M_eases 71 = .ok (.ireturn, 1) := by decide +kernel
theorem d_M_falls_0 : decode b_M_falls 0 = .ok (.aload_n 0, 1) := by decide +kernel
theorem d_M_falls_1 : decode b_M_falls 1 = .ok (.getfield 130, 3) := by decide +kernel
theorem d_M_falls_4 : decode b_M_falls 4 = .ok (.ifCond .ne 6, 3) := by decide +kernel
theorem d_M_falls_7 : decode b_M_falls 7 = .ok (.ldc 137, 2) := by decide +kernel
theorem d_M_falls_9 : decode b_M_falls 9 = .ok (.ireturn, 1) := by decide +kernel
theorem d_M_falls_10 : decode b_M_falls 10 = .ok (.iload_n 1, 1) := by decide +kernel
theorem d_M_falls_11 : decode b_M_falls 11 = .ok (.i2l, 1) := by decide +kernel
theorem d_M_falls_12 : decode b_M_falls 12 = .ok (.lconst 0, 1) := by decide +kernel
theorem d_M_falls_13 : decode b_M_falls 13 = .ok (.lconst 1, 1) := by decide +kernel
theorem d_M_falls_14 : decode b_M_falls 14 = .ok (.invokestatic 45, 3) := by decide +kernel
theorem d_M_falls_17 : decode b_M_falls 17 = .ok (.ifCond .ne 6, 3) := by decide +kernel
theorem d_M_falls_20 : decode b_M_falls 20 = .ok (.ldc 55, 2) := by decide +kernel
theorem d_M_falls_22 : decode b_M_falls 22 = .ok (.ireturn, 1) := by decide +kernel
theorem d_M_falls_23 : decode b_M_falls 23 = .ok (.aload_n 0, 1) := by decide +kernel
theorem d_M_falls_24 : decode b_M_falls 24 = .ok (.invokevirtual 188, 3) := by decide +kernel
theorem d_M_falls_27 : decode b_M_falls 27 = .ok (.iconst 1, 1) := by decide +kernel
theorem d_M_falls_28 : decode b_M_falls 28 = .ok (.istore_n 2, 1) := by decide +kernel
theorem d_M_falls_29 : decode b_M_falls 29 = .ok (.iload_n 2, 1) := by decide +kernel
theorem d_M_falls_30 : decode b_M_falls 30 = .ok (.bipush 61, 2) := by decide +kernel
theorem d_M_falls_32 : decode b_M_falls 32 = .ok (.if_icmp .ge 33, 3) := by decide +kernel
theorem d_M_falls_35 : decode b_M_falls 35 = .ok (.aload_n 0, 1) := by decide +kernel
theorem d_M_falls_36 : decode b_M_falls 36 = .ok (.sipush 972, 3) := by decide +kernel
theorem d_M_falls_39 : decode b_M_falls 39 = .ok (.invokevirtual 167, 3) := by decide +kernel
theorem d_M_falls_42 : decode b_M_falls 42 = .ok (.istore_n 3, 1) := by decide +kernel
theorem d_M_falls_43 : decode b_M_falls 43 = .ok (.iload_n 3, 1) := by decide +kernel
theorem d_M_falls_44 : decode b_M_falls 44 = .ok (.ldc 147, 2) := by decide +kernel
theorem d_M_falls_46 : decode b_M_falls 46 = .ok (.if_icmp .eq 13, 3) := by decide +kernel
theorem d_M_falls_49 : decode b_M_falls 49 = .ok (.iload_n 1, 1) := by decide +kernel
theorem d_M_falls_50 : decode b_M_falls 50 = .ok (.ifCond .ne 7, 3) := by decide +kernel
theorem d_M_falls_53 : decode b_M_falls 53 = .ok (.iload_n 2, 1) := by decide +kernel
theorem d_M_falls_54 : decode b_M_falls 54 = .ok (.goto 4, 3) := by decide +kernel
theorem d_M_falls_57 : decode b_M_falls 57 = .ok (.iload_n 3, 1) := by decide +kernel
theorem d_M_falls_58 : decode b_M_falls 58 = .ok (.ireturn, 1) := by decide +kernel
theorem d_M_falls_59 : decode b_M_falls 59 = .ok (.iinc 2 1, 3) := by decide +kernel
theorem d_M_falls_62 : decode b_M_falls 62 = .ok (.goto (-33), 3) := by decide +kernel
theorem d_M_falls_65 : decode b_M_falls 65 = .ok (.ldc 147, 2) := by decide +kernel
theorem d_M_falls_67 : decode b_M_falls 67 = .ok (.ireturn, 1) := by decide +kernel
theorem d_M_fallsAhead_0 : decode b_M_fallsAhead 0 = .ok (.aload_n 0, 1) := by decide +kernel
theorem d_M_fallsAhead_1 : decode b_M_fallsAhead 1 = .ok (.getfield 7, 3) := by decide +kernel
theorem d_M_fallsAhead_4 : decode b_M_fallsAhead 4 = .ok (.iload_n 1, 1) := by decide +kernel
theorem d_M_fallsAhead_5 : decode b_M_fallsAhead 5 = .ok (.bipush 18, 2) := by decide +kernel
theorem d_M_fallsAhead_7 : decode b_M_fallsAhead 7 = .ok (.iadd, 1) := by decide +kernel
theorem d_M_fallsAhead_8 : decode b_M_fallsAhead 8 = .ok (.iload_n 2, 1) := by decide +kernel
theorem d_M_fallsAhead_9 : decode b_M_fallsAhead 9 = .ok (.iadd, 1) := by decide +kernel
theorem d_M_fallsAhead_10 : decode b_M_fallsAhead 10 = .ok (.iaload, 1) := by decide +kernel
theorem d_M_fallsAhead_11 : decode b_M_fallsAhead 11 = .ok (.aload_n 0, 1) := by decide +kernel
theorem d_M_fallsAhead_12 : decode b_M_fallsAhead 12 = .ok (.getfield 7, 3) := by decide +kernel
theorem d_M_fallsAhead_15 : decode b_M_fallsAhead 15 = .ok (.iload_n 1, 1) := by decide +kernel
theorem d_M_fallsAhead_16 : decode b_M_fallsAhead 16 = .ok (.bipush 18, 2) := by decide +kernel
theorem d_M_fallsAhead_18 : decode b_M_fallsAhead 18 = .ok (.iadd, 1) := by decide +kernel
theorem d_M_fallsAhead_19 : decode b_M_fallsAhead 19 = .ok (.iload_n 3, 1) := by decide +kernel
theorem d_M_fallsAhead_20 : decode b_M_fallsAhead 20 = .ok (.iadd, 1) := by decide +kernel
theorem d_M_fallsAhead_21 : decode b_M_fallsAhead 21 = .ok (.iaload, 1) := by decide +kernel
theorem d_M_fallsAhead_22 : decode b_M_fallsAhead 22 = .ok (.isub, 1) := by decide +kernel
theorem d_M_fallsAhead_23 : decode b_M_fallsAhead 23 = .ok (.istore 4, 2) := by decide +kernel
theorem d_M_fallsAhead_25 : decode b_M_fallsAhead 25 = .ok (.iload 4, 2) := by decide +kernel
theorem d_M_fallsAhead_27 : decode b_M_fallsAhead 27 = .ok (.ifCond .gt 33, 3) := by decide +kernel
theorem d_M_fallsAhead_30 : decode b_M_fallsAhead 30 = .ok (.iload 4, 2) := by decide +kernel
theorem d_M_fallsAhead_32 : decode b_M_fallsAhead 32 = .ok (.ifCond .ne 32, 3) := by decide +kernel
theorem d_M_fallsAhead_35 : decode b_M_fallsAhead 35 = .ok (.aload_n 0, 1) := by decide +kernel
theorem d_M_fallsAhead_36 : decode b_M_fallsAhead 36 = .ok (.getfield 7, 3) := by decide +kernel
theorem d_M_fallsAhead_39 : decode b_M_fallsAhead 39 = .ok (.iload_n 1, 1) := by decide +kernel
theorem d_M_fallsAhead_40 : decode b_M_fallsAhead 40 = .ok (.bipush 30, 2) := by decide +kernel
theorem d_M_fallsAhead_42 : decode b_M_fallsAhead 42 = .ok (.iadd, 1) := by decide +kernel
theorem d_M_fallsAhead_43 : decode b_M_fallsAhead 43 = .ok (.iload_n 2, 1) := by decide +kernel
theorem d_M_fallsAhead_44 : decode b_M_fallsAhead 44 = .ok (.iadd, 1) := by decide +kernel
theorem d_M_fallsAhead_45 : decode b_M_fallsAhead 45 = .ok (.iaload, 1) := by decide +kernel
theorem d_M_fallsAhead_46 : decode b_M_fallsAhead 46 = .ok (.aload_n 0, 1) := by decide +kernel
theorem d_M_fallsAhead_47 : decode b_M_fallsAhead 47 = .ok (.getfield 7, 3) := by decide +kernel
theorem d_M_fallsAhead_50 : decode b_M_fallsAhead 50 = .ok (.iload_n 1, 1) := by decide +kernel
theorem d_M_fallsAhead_51 : decode b_M_fallsAhead 51 = .ok (.bipush 30, 2) := by decide +kernel
theorem d_M_fallsAhead_53 : decode b_M_fallsAhead 53 = .ok (.iadd, 1) := by decide +kernel
theorem d_M_fallsAhead_54 : decode b_M_fallsAhead 54 = .ok (.iload_n 3, 1) := by decide +kernel
theorem d_M_fallsAhead_55 : decode b_M_fallsAhead 55 = .ok (.iadd, 1) := by decide +kernel
theorem d_M_fallsAhead_56 : decode b_M_fallsAhead 56 = .ok (.iaload, 1) := by decide +kernel
theorem d_M_fallsAhead_57 : decode b_M_fallsAhead 57 = .ok (.if_icmp .le 7, 3) := by decide +kernel
theorem d_M_fallsAhead_60 : decode b_M_fallsAhead 60 = .ok (.iconst 1, 1) := by decide +kernel
theorem d_M_fallsAhead_61 : decode b_M_fallsAhead 61 = .ok (.goto 4, 3) := by decide +kernel
theorem d_M_fallsAhead_64 : decode b_M_fallsAhead 64 = .ok (.iconst 0, 1) := by decide +kernel
theorem d_M_fallsAhead_65 : decode b_M_fallsAhead 65 = .ok (.ireturn, 1) := by decide +kernel
theorem d_M_fault_0 : decode b_M_fault 0 = .ok (.aload_n 0, 1) := by decide +kernel
theorem d_M_fault_1 : decode b_M_fault 1 = .ok (.getfield 122, 3) := by decide +kernel
theorem d_M_fault_4 : decode b_M_fault 4 = .ok (.ireturn, 1) := by decide +kernel
theorem d_M_feed_0 : decode b_M_feed 0 = .ok (.iload_n 1, 1) := by decide +kernel
theorem d_M_feed_1 : decode b_M_feed 1 = .ok (.i2l, 1) := by decide +kernel
theorem d_M_feed_2 : decode b_M_feed 2 = .ok (.lconst 0, 1) := by decide +kernel
theorem d_M_feed_3 : decode b_M_feed 3 = .ok (.ldc2_w 71, 3) := by decide +kernel
theorem d_M_feed_6 : decode b_M_feed 6 = .ok (.invokestatic 45, 3) := by decide +kernel
theorem d_M_feed_9 : decode b_M_feed 9 = .ok (.ifCond .ne 6, 3) := by decide +kernel
theorem d_M_feed_12 : decode b_M_feed 12 = .ok (.ldc 55, 2) := by decide +kernel
theorem d_M_feed_14 : decode b_M_feed 14 = .ok (.ireturn, 1) := by decide +kernel
theorem d_M_feed_15 : decode b_M_feed 15 = .ok (.aload_n 0, 1) := by decide +kernel
theorem d_M_feed_16 : decode b_M_feed 16 = .ok (.getfield 73, 3) := by decide +kernel
theorem d_M_feed_19 : decode b_M_feed 19 = .ok (.bipush 100, 2) := by decide +kernel
theorem d_M_feed_21 : decode b_M_feed 21 = .ok (.if_icmp .ne 6, 3) := by decide +kernel
theorem d_M_feed_24 : decode b_M_feed 24 = .ok (.ldc 76, 2) := by decide +kernel
theorem d_M_feed_26 : decode b_M_feed 26 = .ok (.ireturn, 1) := by decide +kernel
theorem d_M_feed_27 : decode b_M_feed 27 = .ok (.aload_n 0, 1) := by decide +kernel
theorem d_M_feed_28 : decode b_M_feed 28 = .ok (.getfield 26, 3) := by decide +kernel
theorem d_M_feed_31 : decode b_M_feed 31 = .ok (.aload_n 0, 1) := by decide +kernel
theorem d_M_feed_32 : decode b_M_feed 32 = .ok (.getfield 73, 3) := by decide +kernel
theorem d_M_feed_35 : decode b_M_feed 35 = .ok (.iload_n 1, 1) := by decide +kernel
theorem d_M_feed_36 : decode b_M_feed 36 = .ok (.iastore, 1) := by decide +kernel
theorem d_M_feed_37 : decode b_M_feed 37 = .ok (.aload_n 0, 1) := by decide +kernel
theorem d_M_feed_38 : decode b_M_feed 38 = .ok (.dup, 1) := by decide +kernel
theorem d_M_feed_39 : decode b_M_feed 39 = .ok (.getfield 73, 3) := by decide +kernel
theorem d_M_feed_42 : decode b_M_feed 42 = .ok (.iconst 1, 1) := by decide +kernel
theorem d_M_feed_43 : decode b_M_feed 43 = .ok (.iadd, 1) := by decide +kernel
theorem d_M_feed_44 : decode b_M_feed 44 = .ok (.putfield 73, 3) := by decide +kernel
theorem d_M_feed_47 : decode b_M_feed 47 = .ok (.aload_n 0, 1) := by decide +kernel
theorem d_M_feed_48 : decode b_M_feed 48 = .ok (.getfield 73, 3) := by decide +kernel
theorem d_M_feed_51 : decode b_M_feed 51 = .ok (.ireturn, 1) := by decide +kernel
theorem d_M_fewest_0 : decode b_M_fewest 0 = .ok (.aload_n 0, 1) := by decide +kernel
theorem d_M_fewest_1 : decode b_M_fewest 1 = .ok (.getfield 7, 3) := by decide +kernel
theorem d_M_fewest_4 : decode b_M_fewest 4 = .ok (.iconst 3, 1) := by decide +kernel
theorem d_M_fewest_5 : decode b_M_fewest 5 = .ok (.iaload, 1) := by decide +kernel
theorem d_M_fewest_6 : decode b_M_fewest 6 = .ok (.istore_n 3, 1) := by decide +kernel
theorem d_M_fewest_7 : decode b_M_fewest 7 = .ok (.bipush 63, 2) := by decide +kernel
theorem d_M_fewest_9 : decode b_M_fewest 9 = .ok (.istore 4, 2) := by decide +kernel
theorem d_M_fewest_11 : decode b_M_fewest 11 = .ok (.iload 4, 2) := by decide +kernel
theorem d_M_fewest_13 : decode b_M_fewest 13 = .ok (.ifCond .lt 82, 3) := by decide +kernel
theorem d_M_fewest_16 : decode b_M_fewest 16 = .ok (.iload 4, 2) := by decide +kernel
theorem d_M_fewest_18 : decode b_M_fewest 18 = .ok (.aload_n 0, 1) := by decide +kernel
theorem d_M_fewest_19 : decode b_M_fewest 19 = .ok (.getfield 7, 3) := by decide +kernel
theorem d_M_fewest_22 : decode b_M_fewest 22 = .ok (.iconst 3, 1) := by decide +kernel
theorem d_M_fewest_23 : decode b_M_fewest 23 = .ok (.iaload, 1) := by decide +kernel
theorem d_M_fewest_24 : decode b_M_fewest 24 = .ok (.iconst (-1), 1) := by decide +kernel
theorem d_M_fewest_25 : decode b_M_fewest 25 = .ok (.ixor, 1) := by decide +kernel
theorem d_M_fewest_26 : decode b_M_fewest 26 = .ok (.iand, 1) := by decide +kernel
theorem d_M_fewest_27 : decode b_M_fewest 27 = .ok (.ifCond .ne 19, 3) := by decide +kernel
theorem d_M_fewest_30 : decode b_M_fewest 30 = .ok (.iload 4, 2) := by decide +kernel
theorem d_M_fewest_32 : decode b_M_fewest 32 = .ok (.invokestatic 141, 3) := by decide +kernel
theorem d_M_fewest_35 : decode b_M_fewest 35 = .ok (.iload_n 3, 1) := by decide +kernel
theorem d_M_fewest_36 : decode b_M_fewest 36 = .ok (.invokestatic 141, 3) := by decide +kernel
theorem d_M_fewest_39 : decode b_M_fewest 39 = .ok (.if_icmp .gt 7, 3) := by decide +kernel
theorem d_M_fewest_42 : decode b_M_fewest 42 = .ok (.iconst 1, 1) := by decide +kernel
theorem d_M_fewest_43 : decode b_M_fewest 43 = .ok (.goto 4, 3) := by decide +kernel
theorem d_M_fewest_46 : decode b_M_fewest 46 = .ok (.iconst 0, 1) := by decide +kernel
theorem d_M_fewest_47 : decode b_M_fewest 47 = .ok (.istore 5, 2) := by decide +kernel
theorem d_M_fewest_49 : decode b_M_fewest 49 = .ok (.iload 5, 2) := by decide +kernel
theorem d_M_fewest_51 : decode b_M_fewest 51 = .ok (.ifCond .eq 36, 3) := by decide +kernel
theorem d_M_fewest_54 : decode b_M_fewest 54 = .ok (.iload_n 2, 1) := by decide +kernel
theorem d_M_fewest_55 : decode b_M_fewest 55 = .ok (.ifCond .ge 16, 3) := by decide +kernel
theorem d_M_fewest_58 : decode b_M_fewest 58 = .ok (.aload_n 0, 1) := by decide +kernel
theorem d_M_fewest_59 : decode b_M_fewest 59 = .ok (.iload 4, 2) := by decide +kernel
theorem d_M_fewest_61 : decode b_M_fewest 61 = .ok (.iload_n 1, 1) := by decide +kernel
theorem d_M_fewest_62 : decode b_M_fewest 62 = .ok (.invokevirtual 214, 3) := by decide +kernel
theorem d_M_fewest_65 : decode b_M_fewest 65 = .ok (.ifCond .eq 22, 3) := by decide +kernel
theorem d_M_fewest_68 : decode b_M_fewest 68 = .ok (.goto 14, 3) := by decide +kernel
theorem d_M_fewest_71 : decode b_M_fewest 71 = .ok (.aload_n 0, 1) := by decide +kernel
theorem d_M_fewest_72 : decode b_M_fewest 72 = .ok (.iload 4, 2) := by decide +kernel
theorem d_M_fewest_74 : decode b_M_fewest 74 = .ok (.iload_n 1, 1) := by decide +kernel
theorem d_M_fewest_75 : decode b_M_fewest 75 = .ok (.iload_n 2, 1) := by decide +kernel
theorem d_M_fewest_76 : decode b_M_fewest 76 = .ok (.invokevirtual 217, 3) := by decide +kernel
theorem d_M_fewest_79 : decode b_M_fewest 79 = .ok (.ifCond .eq 8, 3) := by decide +kernel
theorem d_M_fewest_82 : decode b_M_fewest 82 = .ok (.iload 4, 2) := by decide +kernel
theorem d_M_fewest_84 : decode b_M_fewest 84 = .ok (.goto 4, 3) := by decide +kernel
theorem d_M_fewest_87 : decode b_M_fewest 87 = .ok (.iload_n 3, 1) := by decide +kernel
theorem d_M_fewest_88 : decode b_M_fewest 88 = .ok (.istore_n 3, 1) := by decide +kernel
theorem d_M_fewest_89 : decode b_M_fewest 89 = .ok (.iinc 4 (-1), 3) := by decide +kernel
theorem d_M_fewest_92 : decode b_M_fewest 92 = .ok (.goto (-81), 3) := by decide +kernel
theorem d_M_fewest_95 : decode b_M_fewest 95 = .ok (.iload_n 3, 1) := by decide +kernel
theorem d_M_fewest_96 : decode b_M_fewest 96 = .ok (.ireturn, 1) := by decide +kernel
theorem d_M_find_0 : decode b_M_find 0 = .ok (.aload_n 0, 1) := by decide +kernel
theorem d_M_find_1 : decode b_M_find 1 = .ok (.iload_n 1, 1) := by decide +kernel
theorem d_M_find_2 : decode b_M_find 2 = .ok (.putfield 38, 3) := by decide +kernel
theorem d_M_find_5 : decode b_M_find 5 = .ok (.ldc 42, 2) := by decide +kernel
theorem d_M_find_7 : decode b_M_find 7 = .ok (.iload_n 1, 1) := by decide +kernel
theorem d_M_find_8 : decode b_M_find 8 = .ok (.isub, 1) := by decide +kernel
theorem d_M_find_9 : decode b_M_find 9 = .ok (.ireturn, 1) := by decide +kernel
theorem d_M_fits_0 : decode b_M_fits 0 = .ok (.aload_n 0, 1) := by decide +kernel
theorem d_M_fits_1 : decode b_M_fits 1 = .ok (.iload_n 1, 1) := by decide +kernel
theorem d_M_fits_2 : decode b_M_fits 2 = .ok (.invokevirtual 175, 3) := by decide +kernel
theorem d_M_fits_5 : decode b_M_fits 5 = .ok (.ifCond .eq 36, 3) := by decide +kernel
theorem d_M_fits_8 : decode b_M_fits 8 = .ok (.iload_n 2, 1) := by decide +kernel
theorem d_M_fits_9 : decode b_M_fits 9 = .ok (.invokestatic 49, 3) := by decide +kernel
theorem d_M_fits_12 : decode b_M_fits 12 = .ok (.ifCond .eq 29, 3) := by decide +kernel
theorem d_M_fits_15 : decode b_M_fits 15 = .ok (.iload 4, 2) := by decide +kernel
theorem d_M_fits_17 : decode b_M_fits 17 = .ok (.i2l, 1) := by decide +kernel
theorem d_M_fits_18 : decode b_M_fits 18 = .ok (.lconst 1, 1) := by decide +kernel
theorem d_M_fits_19 : decode b_M_fits 19 = .ok (.ldc2_w 225, 3) := by decide +kernel
theorem d_M_fits_22 : decode b_M_fits 22 = .ok (.invokestatic 45, 3) := by decide +kernel
theorem d_M_fits_25 : decode b_M_fits 25 = .ok (.ifCond .eq 16, 3) := by decide +kernel
theorem d_M_fits_28 : decode b_M_fits 28 = .ok (.iload 5, 2) := by decide +kernel
theorem d_M_fits_30 : decode b_M_fits 30 = .ok (.i2l, 1) := by decide +kernel
theorem d_M_fits_31 : decode b_M_fits 31 = .ok (.lconst 0, 1) := by decide +kernel
theorem d_M_fits_32 : decode b_M_fits 32 = .ok (.ldc2_w 53, 3) := by decide +kernel
theorem d_M_fits_35 : decode b_M_fits 35 = .ok (.invokestatic 45, 3) := by decide +kernel
theorem d_M_fits_38 : decode b_M_fits 38 = .ok (.ifCond .ne 6, 3) := by decide +kernel
theorem d_M_fits_41 : decode b_M_fits 41 = .ok (.ldc 55, 2) := by decide +kernel
theorem d_M_fits_43 : decode b_M_fits 43 = .ok (.ireturn, 1) := by decide +kernel
theorem d_M_fits_44 : decode b_M_fits 44 = .ok (.aload_n 0, 1) := by decide +kernel
theorem d_M_fits_45 : decode b_M_fits 45 = .ok (.iload_n 2, 1) := by decide +kernel
theorem d_M_fits_46 : decode b_M_fits 46 = .ok (.iload_n 3, 1) := by decide +kernel
theorem d_M_fits_47 : decode b_M_fits 47 = .ok (.iload 4, 2) := by decide +kernel
theorem d_M_fits_49 : decode b_M_fits 49 = .ok (.invokevirtual 227, 3) := by decide +kernel
theorem d_M_fits_52 : decode b_M_fits 52 = .ok (.istore 6, 2) := by decide +kernel
theorem d_M_fits_54 : decode b_M_fits 54 = .ok (.iload 6, 2) := by decide +kernel
theorem d_M_fits_56 : decode b_M_fits 56 = .ok (.ifCond .eq 6, 3) := by decide +kernel
theorem d_M_fits_59 : decode b_M_fits 59 = .ok (.iload 6, 2) := by decide +kernel
theorem d_M_fits_61 : decode b_M_fits 61 = .ok (.ireturn, 1) := by decide +kernel
theorem d_M_fits_62 : decode b_M_fits 62 = .ok (.iload 5, 2) := by decide +kernel
theorem d_M_fits_64 : decode b_M_fits 64 = .ok (.ifCond .ne 8, 3) := by decide +kernel
theorem d_M_fits_67 : decode b_M_fits 67 = .ok (.bipush 12, 2) := by decide +kernel
theorem d_M_fits_69 : decode b_M_fits 69 = .ok (.goto 16, 3) := by decide +kernel
theorem d_M_fits_72 : decode b_M_fits 72 = .ok (.iload 5, 2) := by decide +kernel
theorem d_M_fits_74 : decode b_M_fits 74 = .ok (.iconst 1, 1) := by decide +kernel
theorem d_M_fits_75 : decode b_M_fits 75 = .ok (.if_icmp .ne 8, 3) := by decide +kernel
theorem d_M_fits_78 : decode b_M_fits 78 = .ok (.bipush 30, 2) := by decide +kernel
theorem d_M_fits_80 : decode b_M_fits 80 = .ok (.goto 5, 3) := by decide +kernel
theorem d_M_fits_83 : decode b_M_fits 83 = .ok (.bipush 6, 2) := by decide +kernel
theorem d_M_fits_85 : decode b_M_fits 85 = .ok (.iload_n 1, 1) := by decide +kernel
theorem d_M_fits_86 : decode b_M_fits 86 = .ok (.iadd, 1) := by decide +kernel
theorem d_M_fits_87 : decode b_M_fits 87 = .ok (.istore 7, 2) := by decide +kernel
theorem d_M_fits_89 : decode b_M_fits 89 = .ok (.iload 5, 2) := by decide +kernel
theorem d_M_fits_91 : decode b_M_fits 91 = .ok (.ifCond .ne 8, 3) := by decide +kernel
theorem d_M_fits_94 : decode b_M_fits 94 = .ok (.bipush 9, 2) := by decide +kernel
theorem d_M_fits_96 : decode b_M_fits 96 = .ok (.goto 15, 3) := by decide +kernel
theorem d_M_fits_99 : decode b_M_fits 99 = .ok (.iload 5, 2) := by decide +kernel
theorem d_M_fits_101 : decode b_M_fits 101 = .ok (.iconst 1, 1) := by decide +kernel
theorem d_M_fits_102 : decode b_M_fits 102 = .ok (.if_icmp .ne 8, 3) := by decide +kernel
theorem d_M_fits_105 : decode b_M_fits 105 = .ok (.bipush 20, 2) := by decide +kernel
theorem d_M_fits_107 : decode b_M_fits 107 = .ok (.goto 4, 3) := by decide +kernel
theorem d_M_fits_110 : decode b_M_fits 110 = .ok (.iconst 5, 1) := by decide +kernel
theorem d_M_fits_111 : decode b_M_fits 111 = .ok (.istore 8, 2) := by decide +kernel
theorem d_M_fits_113 : decode b_M_fits 113 = .ok (.iconst 0, 1) := by decide +kernel
theorem d_M_fits_114 : decode b_M_fits 114 = .ok (.istore 9, 2) := by decide +kernel
theorem d_M_fits_116 : decode b_M_fits 116 = .ok (.iload 5, 2) := by decide +kernel
theorem d_M_fits_118 : decode b_M_fits 118 = .ok (.iconst 2, 1) := by decide +kernel
theorem d_M_fits_119 : decode b_M_fits 119 = .ok (.if_icmp .ne 7, 3) := by decide +kernel
theorem d_M_fits_122 : decode b_M_fits 122 = .ok (.iconst 1, 1) := by decide +kernel
theorem d_M_fits_123 : decode b_M_fits 123 = .ok (.goto 4, 3) := by decide +kernel
theorem d_M_fits_126 : decode b_M_fits 126 = .ok (.iconst 0, 1) := by decide +kernel
theorem d_M_fits_127 : decode b_M_fits 127 = .ok (.istore 10, 2) := by decide +kernel
theorem d_M_fits_129 : decode b_M_fits 129 = .ok (.iload 10, 2) := by decide +kernel
theorem d_M_fits_131 : decode b_M_fits 131 = .ok (.iload 8, 2) := by decide +kernel
theorem d_M_fits_133 : decode b_M_fits 133 = .ok (.if_icmp .gt 50, 3) := by decide +kernel
theorem d_M_fits_136 : decode b_M_fits 136 = .ok (.aload_n 0, 1) := by decide +kernel
theorem d_M_fits_137 : decode b_M_fits 137 = .ok (.invokevirtual 188, 3) := by decide +kernel
theorem d_M_fits_140 : decode b_M_fits 140 = .ok (.aload_n 0, 1) := by decide +kernel
theorem d_M_fits_141 : decode b_M_fits 141 = .ok (.getfield 7, 3) := by decide +kernel
theorem d_M_fits_144 : decode b_M_fits 144 = .ok (.sipush 972, 3) := by decide +kernel
theorem d_M_fits_147 : decode b_M_fits 147 = .ok (.iload 7, 2) := by decide +kernel
theorem d_M_fits_149 : decode b_M_fits 149 = .ok (.iadd, 1) := by decide +kernel
theorem d_M_fits_150 : decode b_M_fits 150 = .ok (.iload 10, 2) := by decide +kernel
theorem d_M_fits_152 : decode b_M_fits 152 = .ok (.iastore, 1) := by decide +kernel
theorem d_M_fits_153 : decode b_M_fits 153 = .ok (.iload 9, 2) := by decide +kernel
theorem d_M_fits_155 : decode b_M_fits 155 = .ok (.aload_n 0, 1) := by decide +kernel
theorem d_M_fits_156 : decode b_M_fits 156 = .ok (.iload_n 2, 1) := by decide +kernel
theorem d_M_fits_157 : decode b_M_fits 157 = .ok (.iload_n 3, 1) := by decide +kernel
theorem d_M_fits_158 : decode b_M_fits 158 = .ok (.iload 4, 2) := by decide +kernel
theorem d_M_fits_160 : decode b_M_fits 160 = .ok (.invokevirtual 231, 3) := by decide +kernel
theorem d_M_fits_163 : decode b_M_fits 163 = .ok (.ifCond .eq 10, 3) := by decide +kernel
theorem d_M_fits_166 : decode b_M_fits 166 = .ok (.iconst 1, 1) := by decide +kernel
theorem d_M_fits_167 : decode b_M_fits 167 = .ok (.iload 10, 2) := by decide +kernel
theorem d_M_fits_169 : decode b_M_fits 169 = .ok (.ishl, 1) := by decide +kernel
theorem d_M_fits_170 : decode b_M_fits 170 = .ok (.goto 4, 3) := by decide +kernel
theorem d_M_fits_173 : decode b_M_fits 173 = .ok (.iconst 0, 1) := by decide +kernel
theorem d_M_fits_174 : decode b_M_fits 174 = .ok (.ior, 1) := by decide +kernel
theorem d_M_fits_175 : decode b_M_fits 175 = .ok (.istore 9, 2) := by decide +kernel
theorem d_M_fits_177 : decode b_M_fits 177 = .ok (.iinc 10 1, 3) := by decide +kernel
theorem d_M_fits_180 : decode b_M_fits 180 = .ok (.goto (-51), 3) := by decide +kernel
theorem d_M_fits_183 : decode b_M_fits 183 = .ok (.aload_n 0, 1) := by decide +kernel
theorem d_M_fits_184 : decode b_M_fits 184 = .ok (.iload 9, 2) := by decide +kernel
theorem d_M_fits_186 : decode b_M_fits 186 = .ok (.invokevirtual 60, 3) := by decide +kernel
theorem d_M_fits_189 : decode b_M_fits 189 = .ok (.ireturn, 1) := by decide +kernel
theorem d_M_growsBy_0 : decode b_M_growsBy 0 = .ok (.iconst 0, 1) := by decide +kernel
theorem d_M_growsBy_1 : decode b_M_growsBy 1 = .ok (.istore_n 2, 1) := by decide +kernel
theorem d_M_growsBy_2 : decode b_M_growsBy 2 = .ok (.aload_n 0, 1) := by decide +kernel
theorem d_M_growsBy_3 : decode b_M_growsBy 3 = .ok (.invokevirtual 188, 3) := by decide +kernel
theorem d_M_growsBy_6 : decode b_M_growsBy 6 = .ok (.iconst 0, 1) := by decide +kernel
theorem d_M_growsBy_7 : decode b_M_growsBy 7 = .ok (.istore_n 3, 1) := by decide +kernel
theorem d_M_growsBy_8 : decode b_M_growsBy 8 = .ok (.iload_n 3, 1) := by decide +kernel
theorem d_M_growsBy_9 : decode b_M_growsBy 9 = .ok (.iload_n 1, 1) := by decide +kernel
theorem d_M_growsBy_10 : decode b_M_growsBy 10 = .ok (.if_icmp .ge 60, 3) := by decide +kernel
theorem d_M_growsBy_13 : decode b_M_growsBy 13 = .ok (.aload_n 0, 1) := by decide +kernel
theorem d_M_growsBy_14 : decode b_M_growsBy 14 = .ok (.getfield 7, 3) := by decide +kernel
theorem d_M_growsBy_17 : decode b_M_growsBy 17 = .ok (.sipush 975, 3) := by decide +kernel
theorem d_M_growsBy_20 : decode b_M_growsBy 20 = .ok (.iaload, 1) := by decide +kernel
theorem d_M_growsBy_21 : decode b_M_growsBy 21 = .ok (.aload_n 0, 1) := by decide +kernel
theorem d_M_growsBy_22 : decode b_M_growsBy 22 = .ok (.getfield 32, 3) := by decide +kernel
theorem d_M_growsBy_25 : decode b_M_growsBy 25 = .ok (.iload_n 3, 1) := by decide +kernel
theorem d_M_growsBy_26 : decode b_M_growsBy 26 = .ok (.iaload, 1) := by decide +kernel
theorem d_M_growsBy_27 : decode b_M_growsBy 27 = .ok (.invokestatic 138, 3) := by decide +kernel
theorem d_M_growsBy_30 : decode b_M_growsBy 30 = .ok (.ifCond .eq 16, 3) := by decide +kernel
theorem d_M_growsBy_33 : decode b_M_growsBy 33 = .ok (.aload_n 0, 1) := by decide +kernel
theorem d_M_growsBy_34 : decode b_M_growsBy 34 = .ok (.sipush 972, 3) := by decide +kernel
theorem d_M_growsBy_37 : decode b_M_growsBy 37 = .ok (.aload_n 0, 1) := by decide +kernel
theorem d_M_growsBy_38 : decode b_M_growsBy 38 = .ok (.getfield 32, 3) := by decide +kernel
theorem d_M_growsBy_41 : decode b_M_growsBy 41 = .ok (.iload_n 3, 1) := by decide +kernel
theorem d_M_growsBy_42 : decode b_M_growsBy 42 = .ok (.iaload, 1) := by decide +kernel
theorem d_M_growsBy_43 : decode b_M_growsBy 43 = .ok (.invokevirtual 178, 3) := by decide +kernel
theorem d_M_growsBy_46 : decode b_M_growsBy 46 = .ok (.iload_n 2, 1) := by decide +kernel
theorem d_M_growsBy_47 : decode b_M_growsBy 47 = .ok (.aload_n 0, 1) := by decide +kernel
theorem d_M_growsBy_48 : decode b_M_growsBy 48 = .ok (.sipush 972, 3) := by decide +kernel
theorem d_M_growsBy_51 : decode b_M_growsBy 51 = .ok (.invokevirtual 157, 3) := by decide +kernel
theorem d_M_growsBy_54 : decode b_M_growsBy 54 = .ok (.iadd, 1) := by decide +kernel
theorem d_M_growsBy_55 : decode b_M_growsBy 55 = .ok (.istore_n 2, 1) := by decide +kernel
theorem d_M_growsBy_56 : decode b_M_growsBy 56 = .ok (.aload_n 0, 1) := by decide +kernel
theorem d_M_growsBy_57 : decode b_M_growsBy 57 = .ok (.sipush 972, 3) := by decide +kernel
theorem d_M_growsBy_60 : decode b_M_growsBy 60 = .ok (.invokevirtual 167, 3) := by decide +kernel
theorem d_M_growsBy_63 : decode b_M_growsBy 63 = .ok (.pop, 1) := by decide +kernel
theorem d_M_growsBy_64 : decode b_M_growsBy 64 = .ok (.iinc 3 1, 3) := by decide +kernel
theorem d_M_growsBy_67 : decode b_M_growsBy 67 = .ok (.goto (-59), 3) := by decide +kernel
theorem d_M_growsBy_70 : decode b_M_growsBy 70 = .ok (.iload_n 2, 1) := by decide +kernel
theorem d_M_growsBy_71 : decode b_M_growsBy 71 = .ok (.ireturn, 1) := by decide +kernel
theorem d_M_has_0 : decode b_M_has 0 = .ok (.iload_n 0, 1) := by decide +kernel
theorem d_M_has_1 : decode b_M_has 1 = .ok (.iload_n 1, 1) := by decide +kernel
theorem d_M_has_2 : decode b_M_has 2 = .ok (.ishr, 1) := by decide +kernel
theorem d_M_has_3 : decode b_M_has 3 = .ok (.iconst 1, 1) := by decide +kernel
theorem d_M_has_4 : decode b_M_has 4 = .ok (.iand, 1) := by decide +kernel
theorem d_M_has_5 : decode b_M_has 5 = .ok (.iconst 1, 1) := by decide +kernel
theorem d_M_has_6 : decode b_M_has 6 = .ok (.if_icmp .ne 7, 3) := by decide +kernel
theorem d_M_has_9 : decode b_M_has 9 = .ok (.iconst 1, 1) := by decide +kernel
theorem d_M_has_10 : decode b_M_has 10 = .ok (.goto 4, 3) := by decide +kernel
theorem d_M_has_13 : decode b_M_has 13 = .ok (.iconst 0, 1) := by decide +kernel
theorem d_M_has_14 : decode b_M_has 14 = .ok (.ireturn, 1) := by decide +kernel
theorem d_M_hold_0 : decode b_M_hold 0 = .ok (.aload_n 0, 1) := by decide +kernel
theorem d_M_hold_1 : decode b_M_hold 1 = .ok (.getfield 130, 3) := by decide +kernel
theorem d_M_hold_4 : decode b_M_hold 4 = .ok (.ifCond .ne 6, 3) := by decide +kernel
theorem d_M_hold_7 : decode b_M_hold 7 = .ok (.ldc 137, 2) := by decide +kernel
theorem d_M_hold_9 : decode b_M_hold 9 = .ok (.ireturn, 1) := by decide +kernel
theorem d_M_hold_10 : decode b_M_hold 10 = .ok (.iload_n 1, 1) := by decide +kernel
theorem d_M_hold_11 : decode b_M_hold 11 = .ok (.i2l, 1) := by decide +kernel
theorem d_M_hold_12 : decode b_M_hold 12 = .ok (.lconst 1, 1) := by decide +kernel
theorem d_M_hold_13 : decode b_M_hold 13 = .ok (.ldc2_w 186, 3) := by decide +kernel
theorem d_M_hold_16 : decode b_M_hold 16 = .ok (.invokestatic 45, 3) := by decide +kernel
theorem d_M_hold_19 : decode b_M_hold 19 = .ok (.ifCond .eq 13, 3) := by decide +kernel
theorem d_M_hold_22 : decode b_M_hold 22 = .ok (.iload_n 2, 1) := by decide +kernel
theorem d_M_hold_23 : decode b_M_hold 23 = .ok (.i2l, 1) := by decide +kernel
theorem d_M_hold_24 : decode b_M_hold 24 = .ok (.lconst 0, 1) := by decide +kernel
theorem d_M_hold_25 : decode b_M_hold 25 = .ok (.lconst 1, 1) := by decide +kernel
theorem d_M_hold_26 : decode b_M_hold 26 = .ok (.invokestatic 45, 3) := by decide +kernel
theorem d_M_hold_29 : decode b_M_hold 29 = .ok (.ifCond .ne 6, 3) := by decide +kernel
theorem d_M_hold_32 : decode b_M_hold 32 = .ok (.ldc 55, 2) := by decide +kernel
theorem d_M_hold_34 : decode b_M_hold 34 = .ok (.ireturn, 1) := by decide +kernel
theorem d_M_hold_35 : decode b_M_hold 35 = .ok (.aload_n 0, 1) := by decide +kernel
theorem d_M_hold_36 : decode b_M_hold 36 = .ok (.iload_n 1, 1) := by decide +kernel
theorem d_M_hold_37 : decode b_M_hold 37 = .ok (.iconst (-1), 1) := by decide +kernel
theorem d_M_hold_38 : decode b_M_hold 38 = .ok (.invokevirtual 220, 3) := by decide +kernel
theorem d_M_hold_41 : decode b_M_hold 41 = .ok (.istore_n 3, 1) := by decide +kernel
theorem d_M_hold_42 : decode b_M_hold 42 = .ok (.iload_n 2, 1) := by decide +kernel
theorem d_M_hold_43 : decode b_M_hold 43 = .ok (.ifCond .ne 10, 3) := by decide +kernel
theorem d_M_hold_46 : decode b_M_hold 46 = .ok (.iload_n 3, 1) := by decide +kernel
theorem d_M_hold_47 : decode b_M_hold 47 = .ok (.invokestatic 141, 3) := by decide +kernel
theorem d_M_hold_50 : decode b_M_hold 50 = .ok (.goto 4, 3) := by decide +kernel
theorem d_M_hold_53 : decode b_M_hold 53 = .ok (.iload_n 3, 1) := by decide +kernel
theorem d_M_hold_54 : decode b_M_hold 54 = .ok (.ireturn, 1) := by decide +kernel
theorem d_M_holds_0 : decode b_M_holds 0 = .ok (.aload_n 0, 1) := by decide +kernel
theorem d_M_holds_1 : decode b_M_holds 1 = .ok (.iload_n 1, 1) := by decide +kernel
theorem d_M_holds_2 : decode b_M_holds 2 = .ok (.invokevirtual 210, 3) := by decide +kernel
theorem d_M_holds_5 : decode b_M_holds 5 = .ok (.iconst 0, 1) := by decide +kernel
theorem d_M_holds_6 : decode b_M_holds 6 = .ok (.istore_n 3, 1) := by decide +kernel
theorem d_M_holds_7 : decode b_M_holds 7 = .ok (.iload_n 3, 1) := by decide +kernel
theorem d_M_holds_8 : decode b_M_holds 8 = .ok (.iload_n 2, 1) := by decide +kernel
theorem d_M_holds_9 : decode b_M_holds 9 = .ok (.if_icmp .ge 23, 3) := by decide +kernel
theorem d_M_holds_12 : decode b_M_holds 12 = .ok (.aload_n 0, 1) := by decide +kernel
theorem d_M_holds_13 : decode b_M_holds 13 = .ok (.sipush 972, 3) := by decide +kernel
theorem d_M_holds_16 : decode b_M_holds 16 = .ok (.invokevirtual 167, 3) := by decide +kernel
theorem d_M_holds_19 : decode b_M_holds 19 = .ok (.ldc 147, 2) := by decide +kernel
theorem d_M_holds_21 : decode b_M_holds 21 = .ok (.if_icmp .eq 5, 3) := by decide +kernel
theorem d_M_holds_24 : decode b_M_holds 24 = .ok (.iconst 0, 1) := by decide +kernel
theorem d_M_holds_25 : decode b_M_holds 25 = .ok (.ireturn, 1) := by decide +kernel
theorem d_M_holds_26 : decode b_M_holds 26 = .ok (.iinc 3 1, 3) := by decide +kernel
theorem d_M_holds_29 : decode b_M_holds 29 = .ok (.goto (-22), 3) := by decide +kernel
theorem d_M_holds_32 : decode b_M_holds 32 = .ok (.iconst 1, 1) := by decide +kernel
theorem d_M_holds_33 : decode b_M_holds 33 = .ok (.ireturn, 1) := by decide +kernel
theorem d_M_house_0 : decode b_M_house 0 = .ok (.aload_n 0, 1) := by decide +kernel
theorem d_M_house_1 : decode b_M_house 1 = .ok (.invokevirtual 119, 3) := by decide +kernel
theorem d_M_house_4 : decode b_M_house 4 = .ok (.istore_n 1, 1) := by decide +kernel
theorem d_M_house_5 : decode b_M_house 5 = .ok (.aload_n 0, 1) := by decide +kernel
theorem d_M_house_6 : decode b_M_house 6 = .ok (.iconst 0, 1) := by decide +kernel
theorem d_M_house_7 : decode b_M_house 7 = .ok (.putfield 73, 3) := by decide +kernel
theorem d_M_house_10 : decode b_M_house 10 = .ok (.iload_n 1, 1) := by decide +kernel
theorem d_M_house_11 : decode b_M_house 11 = .ok (.ifCond .ne 19, 3) := by decide +kernel
theorem d_M_house_14 : decode b_M_house 14 = .ok (.aload_n 0, 1) := by decide +kernel
theorem d_M_house_15 : decode b_M_house 15 = .ok (.aload_n 0, 1) := by decide +kernel
theorem d_M_house_16 : decode b_M_house 16 = .ok (.getfield 84, 3) := by decide +kernel
theorem d_M_house_19 : decode b_M_house 19 = .ok (.putfield 122, 3) := by decide +kernel
theorem d_M_house_22 : decode b_M_house 22 = .ok (.ldc 125, 2) := by decide +kernel
theorem d_M_house_24 : decode b_M_house 24 = .ok (.aload_n 0, 1) := by decide +kernel
theorem d_M_house_25 : decode b_M_house 25 = .ok (.getfield 77, 3) := by decide +kernel
theorem d_M_house_28 : decode b_M_house 28 = .ok (.isub, 1) := by decide +kernel
theorem d_M_house_29 : decode b_M_house 29 = .ok (.ireturn, 1) := by decide +kernel
theorem d_M_house_30 : decode b_M_house 30 = .ok (.aload_n 0, 1) := by decide +kernel
theorem d_M_house_31 : decode b_M_house 31 = .ok (.getfield 7, 3) := by decide +kernel
theorem d_M_house_34 : decode b_M_house 34 = .ok (.sipush 975, 3) := by decide +kernel
theorem d_M_house_37 : decode b_M_house 37 = .ok (.iconst 1, 1) := by decide +kernel
theorem d_M_house_38 : decode b_M_house 38 = .ok (.aload_n 0, 1) := by decide +kernel
theorem d_M_house_39 : decode b_M_house 39 = .ok (.getfield 7, 3) := by decide +kernel
theorem d_M_house_42 : decode b_M_house 42 = .ok (.sipush 972, 3) := by decide +kernel
theorem d_M_house_45 : decode b_M_house 45 = .ok (.iaload, 1) := by decide +kernel
theorem d_M_house_46 : decode b_M_house 46 = .ok (.ishl, 1) := by decide +kernel
theorem d_M_house_47 : decode b_M_house 47 = .ok (.iconst 1, 1) := by decide +kernel
theorem d_M_house_48 : decode b_M_house 48 = .ok (.isub, 1) := by decide +kernel
theorem d_M_house_49 : decode b_M_house 49 = .ok (.iastore, 1) := by decide +kernel
theorem d_M_house_50 : decode b_M_house 50 = .ok (.aload_n 0, 1) := by decide +kernel
theorem d_M_house_51 : decode b_M_house 51 = .ok (.sipush 972, 3) := by decide +kernel
theorem d_M_house_54 : decode b_M_house 54 = .ok (.iconst 0, 1) := by decide +kernel
theorem d_M_house_55 : decode b_M_house 55 = .ok (.invokevirtual 126, 3) := by decide +kernel
theorem d_M_house_58 : decode b_M_house 58 = .ok (.aload_n 0, 1) := by decide +kernel
theorem d_M_house_59 : decode b_M_house 59 = .ok (.iconst 1, 1) := by decide +kernel
theorem d_M_house_60 : decode b_M_house 60 = .ok (.putfield 130, 3) := by decide +kernel
theorem d_M_house_63 : decode b_M_house 63 = .ok (.aload_n 0, 1) := by decide +kernel
theorem d_M_house_64 : decode b_M_house 64 = .ok (.iconst 0, 1) := by decide +kernel
theorem d_M_house_65 : decode b_M_house 65 = .ok (.putfield 134, 3) := by decide +kernel
theorem d_M_house_68 : decode b_M_house 68 = .ok (.aload_n 0, 1) := by decide +kernel
theorem d_M_house_69 : decode b_M_house 69 = .ok (.getfield 7, 3) := by decide +kernel
theorem d_M_house_72 : decode b_M_house 72 = .ok (.iconst 0, 1) := by decide +kernel
theorem d_M_house_73 : decode b_M_house 73 = .ok (.iaload, 1) := by decide +kernel
theorem d_M_house_74 : decode b_M_house 74 = .ok (.ireturn, 1) := by decide +kernel
theorem d_M_image_0 : decode b_M_image 0 = .ok (.iload_n 1, 1) := by decide +kernel
theorem d_M_image_1 : decode b_M_image 1 = .ok (.i2l, 1) := by decide +kernel
theorem d_M_image_2 : decode b_M_image 2 = .ok (.lconst 0, 1) := by decide +kernel
theorem d_M_image_3 : decode b_M_image 3 = .ok (.lconst 1, 1) := by decide +kernel
theorem d_M_image_4 : decode b_M_image 4 = .ok (.invokestatic 45, 3) := by decide +kernel
theorem d_M_image_7 : decode b_M_image 7 = .ok (.ifCond .ne 6, 3) := by decide +kernel
theorem d_M_image_10 : decode b_M_image 10 = .ok (.ldc 55, 2) := by decide +kernel
theorem d_M_image_12 : decode b_M_image 12 = .ok (.ireturn, 1) := by decide +kernel
theorem d_M_image_13 : decode b_M_image 13 = .ok (.aload_n 0, 1) := by decide +kernel
theorem d_M_image_14 : decode b_M_image 14 = .ok (.getfield 130, 3) := by decide +kernel
theorem d_M_image_17 : decode b_M_image 17 = .ok (.ifCond .ne 6, 3) := by decide +kernel
theorem d_M_image_20 : decode b_M_image 20 = .ok (.ldc 137, 2) := by decide +kernel
theorem d_M_image_22 : decode b_M_image 22 = .ok (.ireturn, 1) := by decide +kernel
theorem d_M_image_23 : decode b_M_image 23 = .ok (.aload_n 0, 1) := by decide +kernel
theorem d_M_image_24 : decode b_M_image 24 = .ok (.iconst 0, 1) := by decide +kernel
theorem d_M_image_25 : decode b_M_image 25 = .ok (.sipush 900, 3) := by decide +kernel
theorem d_M_image_28 : decode b_M_image 28 = .ok (.bipush 36, 2) := by decide +kernel
theorem d_M_image_30 : decode b_M_image 30 = .ok (.iload_n 1, 1) := by decide +kernel
theorem d_M_image_31 : decode b_M_image 31 = .ok (.imul, 1) := by decide +kernel
theorem d_M_image_32 : decode b_M_image 32 = .ok (.iadd, 1) := by decide +kernel
theorem d_M_image_33 : decode b_M_image 33 = .ok (.invokevirtual 126, 3) := by decide +kernel
theorem d_M_image_36 : decode b_M_image 36 = .ok (.aload_n 0, 1) := by decide +kernel
theorem d_M_image_37 : decode b_M_image 37 = .ok (.getfield 13, 3) := by decide +kernel
theorem d_M_image_40 : decode b_M_image 40 = .ok (.iload_n 1, 1) := by decide +kernel
theorem d_M_image_41 : decode b_M_image 41 = .ok (.iconst 1, 1) := by decide +kernel
theorem d_M_image_42 : decode b_M_image 42 = .ok (.bastore, 1) := by decide +kernel
theorem d_M_image_43 : decode b_M_image 43 = .ok (.iconst 1, 1) := by decide +kernel
theorem d_M_image_44 : decode b_M_image 44 = .ok (.ireturn, 1) := by decide +kernel
theorem d_M_in_0 : decode b_M_in 0 = .ok (.lload_n 0, 1) := by decide +kernel
theorem d_M_in_1 : decode b_M_in 1 = .ok (.lload_n 2, 1) := by decide +kernel
theorem d_M_in_2 : decode b_M_in 2 = .ok (.lcmp, 1) := by decide +kernel
theorem d_M_in_3 : decode b_M_in 3 = .ok (.ifCond .lt 14, 3) := by decide +kernel
theorem d_M_in_6 : decode b_M_in 6 = .ok (.lload_n 0, 1) := by decide +kernel
theorem d_M_in_7 : decode b_M_in 7 = .ok (.lload 4, 2) := by decide +kernel
theorem d_M_in_9 : decode b_M_in 9 = .ok (.lcmp, 1) := by decide +kernel
theorem d_M_in_10 : decode b_M_in 10 = .ok (.ifCond .gt 7, 3) := by decide +kernel
theorem d_M_in_13 : decode b_M_in 13 = .ok (.iconst 1, 1) := by decide +kernel
theorem d_M_in_14 : decode b_M_in 14 = .ok (.goto 4, 3) := by decide +kernel
theorem d_M_in_17 : decode b_M_in 17 = .ok (.iconst 0, 1) := by decide +kernel
theorem d_M_in_18 : decode b_M_in 18 = .ok (.ireturn, 1) := by decide +kernel
theorem d_M_init_0 : decode b_M_init 0 = .ok (.aload_n 0, 1) := by decide +kernel
theorem d_M_init_1 : decode b_M_init 1 = .ok (.invokespecial 1, 3) := by decide +kernel
theorem d_M_init_4 : decode b_M_init 4 = .ok (.aload_n 0, 1) := by decide +kernel
theorem d_M_init_5 : decode b_M_init 5 = .ok (.sipush 1008, 3) := by decide +kernel
theorem d_M_init_8 : decode b_M_init 8 = .ok (.newarray .int, 2) := by decide +kernel
theorem d_M_init_10 : decode b_M_init 10 = .ok (.putfield 7, 3) := by decide +kernel
theorem d_M_init_13 : decode b_M_init 13 = .ok (.aload_n 0, 1) := by decide +kernel
theorem d_M_init_14 : decode b_M_init 14 = .ok (.iconst 2, 1) := by decide +kernel
theorem d_M_init_15 : decode b_M_init 15 = .ok (.newarray .boolean, 2) := by decide +kernel
theorem d_M_init_17 : decode b_M_init 17 = .ok (.putfield 13, 3) := by decide +kernel
theorem d_M_init_20 : decode b_M_init 20 = .ok (.aload_n 0, 1) := by decide +kernel
theorem d_M_init_21 : decode b_M_init 21 = .ok (.bipush 8, 2) := by decide +kernel
theorem d_M_init_23 : decode b_M_init 23 = .ok (.newarray .int, 2) := by decide +kernel
theorem d_M_init_25 : decode b_M_init 25 = .ok (.putfield 17, 3) := by decide +kernel
theorem d_M_init_28 : decode b_M_init 28 = .ok (.aload_n 0, 1) := by decide +kernel
theorem d_M_init_29 : decode b_M_init 29 = .ok (.bipush 8, 2) := by decide +kernel
theorem d_M_init_31 : decode b_M_init 31 = .ok (.newarray .int, 2) := by decide +kernel
theorem d_M_init_33 : decode b_M_init 33 = .ok (.dup, 1) := by decide +kernel
theorem d_M_init_34 : decode b_M_init 34 = .ok (.iconst 0, 1) := by decide +kernel
theorem d_M_init_35 : decode b_M_init 35 = .ok (.iconst (-1), 1) := by decide +kernel
theorem d_M_init_36 : decode b_M_init 36 = .ok (.iastore, 1) := by decide +kernel
theorem d_M_init_37 : decode b_M_init 37 = .ok (.dup, 1) := by decide +kernel
theorem d_M_init_38 : decode b_M_init 38 = .ok (.iconst 1, 1) := by decide +kernel
theorem d_M_init_39 : decode b_M_init 39 = .ok (.iconst (-1), 1) := by decide +kernel
theorem d_M_init_40 : decode b_M_init 40 = .ok (.iastore, 1) := by decide +kernel
theorem d_M_init_41 : decode b_M_init 41 = .ok (.dup, 1) := by decide +kernel
theorem d_M_init_42 : decode b_M_init 42 = .ok (.iconst 2, 1) := by decide +kernel
theorem d_M_init_43 : decode b_M_init 43 = .ok (.iconst (-1), 1) := by decide +kernel
theorem d_M_init_44 : decode b_M_init 44 = .ok (.iastore, 1) := by decide +kernel
theorem d_M_init_45 : decode b_M_init 45 = .ok (.dup, 1) := by decide +kernel
theorem d_M_init_46 : decode b_M_init 46 = .ok (.iconst 3, 1) := by decide +kernel
theorem d_M_init_47 : decode b_M_init 47 = .ok (.iconst (-1), 1) := by decide +kernel
theorem d_M_init_48 : decode b_M_init 48 = .ok (.iastore, 1) := by decide +kernel
theorem d_M_init_49 : decode b_M_init 49 = .ok (.dup, 1) := by decide +kernel
theorem d_M_init_50 : decode b_M_init 50 = .ok (.iconst 4, 1) := by decide +kernel
theorem d_M_init_51 : decode b_M_init 51 = .ok (.iconst (-1), 1) := by decide +kernel
theorem d_M_init_52 : decode b_M_init 52 = .ok (.iastore, 1) := by decide +kernel
theorem d_M_init_53 : decode b_M_init 53 = .ok (.dup, 1) := by decide +kernel
theorem d_M_init_54 : decode b_M_init 54 = .ok (.iconst 5, 1) := by decide +kernel
theorem d_M_init_55 : decode b_M_init 55 = .ok (.iconst (-1), 1) := by decide +kernel
theorem d_M_init_56 : decode b_M_init 56 = .ok (.iastore, 1) := by decide +kernel
theorem d_M_init_57 : decode b_M_init 57 = .ok (.dup, 1) := by decide +kernel
theorem d_M_init_58 : decode b_M_init 58 = .ok (.bipush 6, 2) := by decide +kernel
theorem d_M_init_60 : decode b_M_init 60 = .ok (.iconst (-1), 1) := by decide +kernel
theorem d_M_init_61 : decode b_M_init 61 = .ok (.iastore, 1) := by decide +kernel
theorem d_M_init_62 : decode b_M_init 62 = .ok (.dup, 1) := by decide +kernel
theorem d_M_init_63 : decode b_M_init 63 = .ok (.bipush 7, 2) := by decide +kernel
theorem d_M_init_65 : decode b_M_init 65 = .ok (.iconst (-1), 1) := by decide +kernel
theorem d_M_init_66 : decode b_M_init 66 = .ok (.iastore, 1) := by decide +kernel
theorem d_M_init_67 : decode b_M_init 67 = .ok (.putfield 20, 3) := by decide +kernel
theorem d_M_init_70 : decode b_M_init 70 = .ok (.aload_n 0, 1) := by decide +kernel
theorem d_M_init_71 : decode b_M_init 71 = .ok (.sipush 320, 3) := by decide +kernel
theorem d_M_init_74 : decode b_M_init 74 = .ok (.newarray .int, 2) := by decide +kernel
theorem d_M_init_76 : decode b_M_init 76 = .ok (.putfield 23, 3) := by decide +kernel
theorem d_M_init_79 : decode b_M_init 79 = .ok (.aload_n 0, 1) := by decide +kernel
theorem d_M_init_80 : decode b_M_init 80 = .ok (.bipush 100, 2) := by decide +kernel
theorem d_M_init_82 : decode b_M_init 82 = .ok (.newarray .int, 2) := by decide +kernel
theorem d_M_init_84 : decode b_M_init 84 = .ok (.putfield 26, 3) := by decide +kernel
theorem d_M_init_87 : decode b_M_init 87 = .ok (.aload_n 0, 1) := by decide +kernel
theorem d_M_init_88 : decode b_M_init 88 = .ok (.bipush 16, 2) := by decide +kernel
theorem d_M_init_90 : decode b_M_init 90 = .ok (.newarray .int, 2) := by decide +kernel
theorem d_M_init_92 : decode b_M_init 92 = .ok (.putfield 29, 3) := by decide +kernel
theorem d_M_init_95 : decode b_M_init 95 = .ok (.aload_n 0, 1) := by decide +kernel
theorem d_M_init_96 : decode b_M_init 96 = .ok (.bipush 6, 2) := by decide +kernel
theorem d_M_init_98 : decode b_M_init 98 = .ok (.newarray .int, 2) := by decide +kernel
theorem d_M_init_100 : decode b_M_init 100 = .ok (.putfield 32, 3) := by decide +kernel
theorem d_M_init_103 : decode b_M_init 103 = .ok (.aload_n 0, 1) := by decide +kernel
theorem d_M_init_104 : decode b_M_init 104 = .ok (.bipush 6, 2) := by decide +kernel
theorem d_M_init_106 : decode b_M_init 106 = .ok (.newarray .int, 2) := by decide +kernel
theorem d_M_init_108 : decode b_M_init 108 = .ok (.putfield 35, 3) := by decide +kernel
theorem d_M_init_111 : decode b_M_init 111 = .ok (.return_, 1) := by decide +kernel
theorem d_M_isFigure_0 : decode b_M_isFigure 0 = .ok (.iload_n 1, 1) := by decide +kernel
theorem d_M_isFigure_1 : decode b_M_isFigure 1 = .ok (.aload_n 0, 1) := by decide +kernel
theorem d_M_isFigure_2 : decode b_M_isFigure 2 = .ok (.getfield 73, 3) := by decide +kernel
theorem d_M_isFigure_5 : decode b_M_isFigure 5 = .ok (.if_icmp .ge 26, 3) := by decide +kernel
theorem d_M_isFigure_8 : decode b_M_isFigure 8 = .ok (.aload_n 0, 1) := by decide +kernel
theorem d_M_isFigure_9 : decode b_M_isFigure 9 = .ok (.getfield 26, 3) := by decide +kernel
theorem d_M_isFigure_12 : decode b_M_isFigure 12 = .ok (.iload_n 1, 1) := by decide +kernel
theorem d_M_isFigure_13 : decode b_M_isFigure 13 = .ok (.iaload, 1) := by decide +kernel
theorem d_M_isFigure_14 : decode b_M_isFigure 14 = .ok (.i2l, 1) := by decide +kernel
theorem d_M_isFigure_15 : decode b_M_isFigure 15 = .ok (.ldc2_w 80, 3) := by decide +kernel
theorem d_M_isFigure_18 : decode b_M_isFigure 18 = .ok (.ldc2_w 82, 3) := by decide +kernel
theorem d_M_isFigure_21 : decode b_M_isFigure 21 = .ok (.invokestatic 45, 3) := by decide +kernel
theorem d_M_isFigure_24 : decode b_M_isFigure 24 = .ok (.ifCond .eq 7, 3) := by decide +kernel
theorem d_M_isFigure_27 : decode b_M_isFigure 27 = .ok (.iconst 1, 1) := by decide +kernel
theorem d_M_isFigure_28 : decode b_M_isFigure 28 = .ok (.goto 4, 3) := by decide +kernel
theorem d_M_isFigure_31 : decode b_M_isFigure 31 = .ok (.iconst 0, 1) := by decide +kernel
theorem d_M_isFigure_32 : decode b_M_isFigure 32 = .ok (.ireturn, 1) := by decide +kernel
theorem d_M_isLetter_0 : decode b_M_isLetter 0 = .ok (.aload_n 0, 1) := by decide +kernel
theorem d_M_isLetter_1 : decode b_M_isLetter 1 = .ok (.getfield 77, 3) := by decide +kernel
theorem d_M_isLetter_4 : decode b_M_isLetter 4 = .ok (.aload_n 0, 1) := by decide +kernel
theorem d_M_isLetter_5 : decode b_M_isLetter 5 = .ok (.getfield 73, 3) := by decide +kernel
theorem d_M_isLetter_8 : decode b_M_isLetter 8 = .ok (.if_icmp .ge 20, 3) := by decide +kernel
theorem d_M_isLetter_11 : decode b_M_isLetter 11 = .ok (.aload_n 0, 1) := by decide +kernel
theorem d_M_isLetter_12 : decode b_M_isLetter 12 = .ok (.getfield 26, 3) := by decide +kernel
theorem d_M_isLetter_15 : decode b_M_isLetter 15 = .ok (.aload_n 0, 1) := by decide +kernel
theorem d_M_isLetter_16 : decode b_M_isLetter 16 = .ok (.getfield 77, 3) := by decide +kernel
theorem d_M_isLetter_19 : decode b_M_isLetter 19 = .ok (.iaload, 1) := by decide +kernel
theorem d_M_isLetter_20 : decode b_M_isLetter 20 = .ok (.iload_n 1, 1) := by decide +kernel
theorem d_M_isLetter_21 : decode b_M_isLetter 21 = .ok (.if_icmp .ne 7, 3) := by decide +kernel
theorem d_M_isLetter_24 : decode b_M_isLetter 24 = .ok (.iconst 1, 1) := by decide +kernel
theorem d_M_isLetter_25 : decode b_M_isLetter 25 = .ok (.goto 4, 3) := by decide +kernel
theorem d_M_isLetter_28 : decode b_M_isLetter 28 = .ok (.iconst 0, 1) := by decide +kernel
theorem d_M_isLetter_29 : decode b_M_isLetter 29 = .ok (.ireturn, 1) := by decide +kernel
theorem d_M_isLetterThere_0 : decode b_M_isLetterThere 0 = .ok (.iload_n 1, 1) := by decide +kernel
theorem d_M_isLetterThere_1 : decode b_M_isLetterThere 1 = .ok (.i2l, 1) := by decide +kernel
theorem d_M_isLetterThere_2 : decode b_M_isLetterThere 2 = .ok (.lconst 0, 1) := by decide +kernel
theorem d_M_isLetterThere_3 : decode b_M_isLetterThere 3 = .ok (.aload_n 0, 1) := by decide +kernel
theorem d_M_isLetterThere_4 : decode b_M_isLetterThere 4 = .ok (.getfield 7, 3) := by decide +kernel
theorem d_M_isLetterThere_7 : decode b_M_isLetterThere 7 = .ok (.iconst 0, 1) := by decide +kernel
theorem d_M_isLetterThere_8 : decode b_M_isLetterThere 8 = .ok (.iaload, 1) := by decide +kernel
theorem d_M_isLetterThere_9 : decode b_M_isLetterThere 9 = .ok (.iconst 1, 1) := by decide +kernel
theorem d_M_isLetterThere_10 : decode b_M_isLetterThere 10 = .ok (.isub, 1) := by decide +kernel
theorem d_M_isLetterThere_11 : decode b_M_isLetterThere 11 = .ok (.i2l, 1) := by decide +kernel
theorem d_M_isLetterThere_12 : decode b_M_isLetterThere 12 = .ok (.invokestatic 45, 3) := by decide +kernel
theorem d_M_isLetterThere_15 : decode b_M_isLetterThere 15 = .ok (.ireturn, 1) := by decide +kernel
theorem d_M_isOf_0 : decode b_M_isOf 0 = .ok (.aload_n 0, 1) := by decide +kernel
theorem d_M_isOf_1 : decode b_M_isOf 1 = .ok (.getfield 7, 3) := by decide +kernel
theorem d_M_isOf_4 : decode b_M_isOf 4 = .ok (.bipush 6, 2) := by decide +kernel
theorem d_M_isOf_6 : decode b_M_isOf 6 = .ok (.iload_n 1, 1) := by decide +kernel
theorem d_M_isOf_7 : decode b_M_isOf 7 = .ok (.iadd, 1) := by decide +kernel
theorem d_M_isOf_8 : decode b_M_isOf 8 = .ok (.iaload, 1) := by decide +kernel
theorem d_M_isOf_9 : decode b_M_isOf 9 = .ok (.istore_n 3, 1) := by decide +kernel
theorem d_M_isOf_10 : decode b_M_isOf 10 = .ok (.iload_n 2, 1) := by decide +kernel
theorem d_M_isOf_11 : decode b_M_isOf 11 = .ok (.ifCond .eq 33, 3) := by decide +kernel
theorem d_M_isOf_14 : decode b_M_isOf 14 = .ok (.iload_n 2, 1) := by decide +kernel
theorem d_M_isOf_15 : decode b_M_isOf 15 = .ok (.iload_n 3, 1) := by decide +kernel
theorem d_M_isOf_16 : decode b_M_isOf 16 = .ok (.if_icmp .eq 28, 3) := by decide +kernel
theorem d_M_isOf_19 : decode b_M_isOf 19 = .ok (.iload_n 2, 1) := by decide +kernel
theorem d_M_isOf_20 : decode b_M_isOf 20 = .ok (.iconst 1, 1) := by decide +kernel
theorem d_M_isOf_21 : decode b_M_isOf 21 = .ok (.if_icmp .ne 13, 3) := by decide +kernel
theorem d_M_isOf_24 : decode b_M_isOf 24 = .ok (.iload_n 3, 1) := by decide +kernel
theorem d_M_isOf_25 : decode b_M_isOf 25 = .ok (.iconst 2, 1) := by decide +kernel
theorem d_M_isOf_26 : decode b_M_isOf 26 = .ok (.if_icmp .eq 18, 3) := by decide +kernel
theorem d_M_isOf_29 : decode b_M_isOf 29 = .ok (.iload_n 3, 1) := by decide +kernel
theorem d_M_isOf_30 : decode b_M_isOf 30 = .ok (.iconst 3, 1) := by decide +kernel
theorem d_M_isOf_31 : decode b_M_isOf 31 = .ok (.if_icmp .eq 13, 3) := by decide +kernel
theorem d_M_isOf_34 : decode b_M_isOf 34 = .ok (.iload_n 2, 1) := by decide +kernel
theorem d_M_isOf_35 : decode b_M_isOf 35 = .ok (.iconst 4, 1) := by decide +kernel
theorem d_M_isOf_36 : decode b_M_isOf 36 = .ok (.if_icmp .ne 12, 3) := by decide +kernel
theorem d_M_isOf_39 : decode b_M_isOf 39 = .ok (.iload_n 3, 1) := by decide +kernel
theorem d_M_isOf_40 : decode b_M_isOf 40 = .ok (.iconst 5, 1) := by decide +kernel
theorem d_M_isOf_41 : decode b_M_isOf 41 = .ok (.if_icmp .ne 7, 3) := by decide +kernel
theorem d_M_isOf_44 : decode b_M_isOf 44 = .ok (.iconst 1, 1) := by decide +kernel
theorem d_M_isOf_45 : decode b_M_isOf 45 = .ok (.goto 4, 3) := by decide +kernel
theorem d_M_isOf_48 : decode b_M_isOf 48 = .ok (.iconst 0, 1) := by decide +kernel
theorem d_M_isOf_49 : decode b_M_isOf 49 = .ok (.ireturn, 1) := by decide +kernel
theorem d_M_isRow_0 : decode b_M_isRow 0 = .ok (.iload_n 0, 1) := by decide +kernel
theorem d_M_isRow_1 : decode b_M_isRow 1 = .ok (.i2l, 1) := by decide +kernel
theorem d_M_isRow_2 : decode b_M_isRow 2 = .ok (.lconst 0, 1) := by decide +kernel
theorem d_M_isRow_3 : decode b_M_isRow 3 = .ok (.ldc2_w 43, 3) := by decide +kernel
theorem d_M_isRow_6 : decode b_M_isRow 6 = .ok (.invokestatic 45, 3) := by decide +kernel
theorem d_M_isRow_9 : decode b_M_isRow 9 = .ok (.ireturn, 1) := by decide +kernel
theorem d_M_isSo_0 : decode b_M_isSo 0 = .ok (.iconst 0, 1) := by decide +kernel
theorem d_M_isSo_1 : decode b_M_isSo 1 = .ok (.istore 4, 2) := by decide +kernel
theorem d_M_isSo_3 : decode b_M_isSo 3 = .ok (.iload 4, 2) := by decide +kernel
theorem d_M_isSo_5 : decode b_M_isSo 5 = .ok (.iload_n 3, 1) := by decide +kernel
theorem d_M_isSo_6 : decode b_M_isSo 6 = .ok (.if_icmp .ge 43, 3) := by decide +kernel
theorem d_M_isSo_9 : decode b_M_isSo 9 = .ok (.aload_n 0, 1) := by decide +kernel
theorem d_M_isSo_10 : decode b_M_isSo 10 = .ok (.sipush 972, 3) := by decide +kernel
theorem d_M_isSo_13 : decode b_M_isSo 13 = .ok (.invokevirtual 157, 3) := by decide +kernel
theorem d_M_isSo_16 : decode b_M_isSo 16 = .ok (.aload_n 0, 1) := by decide +kernel
theorem d_M_isSo_17 : decode b_M_isSo 17 = .ok (.getfield 23, 3) := by decide +kernel
theorem d_M_isSo_20 : decode b_M_isSo 20 = .ok (.bipush 40, 2) := by decide +kernel
theorem d_M_isSo_22 : decode b_M_isSo 22 = .ok (.iload_n 1, 1) := by decide +kernel
theorem d_M_isSo_23 : decode b_M_isSo 23 = .ok (.imul, 1) := by decide +kernel
theorem d_M_isSo_24 : decode b_M_isSo 24 = .ok (.iload_n 2, 1) := by decide +kernel
theorem d_M_isSo_25 : decode b_M_isSo 25 = .ok (.iadd, 1) := by decide +kernel
theorem d_M_isSo_26 : decode b_M_isSo 26 = .ok (.iload 4, 2) := by decide +kernel
theorem d_M_isSo_28 : decode b_M_isSo 28 = .ok (.iadd, 1) := by decide +kernel
theorem d_M_isSo_29 : decode b_M_isSo 29 = .ok (.iaload, 1) := by decide +kernel
theorem d_M_isSo_30 : decode b_M_isSo 30 = .ok (.if_icmp .eq 5, 3) := by decide +kernel
theorem d_M_isSo_33 : decode b_M_isSo 33 = .ok (.iconst 0, 1) := by decide +kernel
theorem d_M_isSo_34 : decode b_M_isSo 34 = .ok (.ireturn, 1) := by decide +kernel
theorem d_M_isSo_35 : decode b_M_isSo 35 = .ok (.aload_n 0, 1) := by decide +kernel
theorem d_M_isSo_36 : decode b_M_isSo 36 = .ok (.sipush 972, 3) := by decide +kernel
theorem d_M_isSo_39 : decode b_M_isSo 39 = .ok (.invokevirtual 167, 3) := by decide +kernel
theorem d_M_isSo_42 : decode b_M_isSo 42 = .ok (.pop, 1) := by decide +kernel
theorem d_M_isSo_43 : decode b_M_isSo 43 = .ok (.iinc 4 1, 3) := by decide +kernel
theorem d_M_isSo_46 : decode b_M_isSo 46 = .ok (.goto (-43), 3) := by decide +kernel
theorem d_M_isSo_49 : decode b_M_isSo 49 = .ok (.iconst 1, 1) := by decide +kernel
theorem d_M_isSo_50 : decode b_M_isSo 50 = .ok (.ireturn, 1) := by decide +kernel
theorem d_M_isSort_0 : decode b_M_isSort 0 = .ok (.aload_n 0, 1) := by decide +kernel
theorem d_M_isSort_1 : decode b_M_isSort 1 = .ok (.getfield 77, 3) := by decide +kernel
theorem d_M_isSort_4 : decode b_M_isSort 4 = .ok (.aload_n 0, 1) := by decide +kernel
theorem d_M_isSort_5 : decode b_M_isSort 5 = .ok (.getfield 73, 3) := by decide +kernel
theorem d_M_isSort_8 : decode b_M_isSort 8 = .ok (.if_icmp .ge 22, 3) := by decide +kernel
theorem d_M_isSort_11 : decode b_M_isSort 11 = .ok (.aload_n 0, 1) := by decide +kernel
theorem d_M_isSort_12 : decode b_M_isSort 12 = .ok (.getfield 26, 3) := by decide +kernel
theorem d_M_isSort_15 : decode b_M_isSort 15 = .ok (.aload_n 0, 1) := by decide +kernel
theorem d_M_isSort_16 : decode b_M_isSort 16 = .ok (.getfield 77, 3) := by decide +kernel
theorem d_M_isSort_19 : decode b_M_isSort 19 = .ok (.iaload, 1) := by decide +kernel
theorem d_M_isSort_20 : decode b_M_isSort 20 = .ok (.invokestatic 106, 3) := by decide +kernel
theorem d_M_isSort_23 : decode b_M_isSort 23 = .ok (.ifCond .le 7, 3) := by decide +kernel
theorem d_M_isSort_26 : decode b_M_isSort 26 = .ok (.iconst 1, 1) := by decide +kernel
theorem d_M_isSort_27 : decode b_M_isSort 27 = .ok (.goto 4, 3) := by decide +kernel
theorem d_M_isSort_30 : decode b_M_isSort 30 = .ok (.iconst 0, 1) := by decide +kernel
theorem d_M_isSort_31 : decode b_M_isSort 31 = .ok (.ireturn, 1) := by decide +kernel
theorem d_M_isSpan_0 : decode b_M_isSpan 0 = .ok (.iload_n 2, 1) := by decide +kernel
theorem d_M_isSpan_1 : decode b_M_isSpan 1 = .ok (.ifCond .lt 27, 3) := by decide +kernel
theorem d_M_isSpan_4 : decode b_M_isSpan 4 = .ok (.iload_n 3, 1) := by decide +kernel
theorem d_M_isSpan_5 : decode b_M_isSpan 5 = .ok (.ifCond .lt 23, 3) := by decide +kernel
theorem d_M_isSpan_8 : decode b_M_isSpan 8 = .ok (.iload_n 2, 1) := by decide +kernel
theorem d_M_isSpan_9 : decode b_M_isSpan 9 = .ok (.i2l, 1) := by decide +kernel
theorem d_M_isSpan_10 : decode b_M_isSpan 10 = .ok (.iload_n 3, 1) := by decide +kernel
theorem d_M_isSpan_11 : decode b_M_isSpan 11 = .ok (.i2l, 1) := by decide +kernel
theorem d_M_isSpan_12 : decode b_M_isSpan 12 = .ok (.ladd, 1) := by decide +kernel
theorem d_M_isSpan_13 : decode b_M_isSpan 13 = .ok (.aload_n 0, 1) := by decide +kernel
theorem d_M_isSpan_14 : decode b_M_isSpan 14 = .ok (.getfield 20, 3) := by decide +kernel
theorem d_M_isSpan_17 : decode b_M_isSpan 17 = .ok (.iload_n 1, 1) := by decide +kernel
theorem d_M_isSpan_18 : decode b_M_isSpan 18 = .ok (.iaload, 1) := by decide +kernel
theorem d_M_isSpan_19 : decode b_M_isSpan 19 = .ok (.i2l, 1) := by decide +kernel
theorem d_M_isSpan_20 : decode b_M_isSpan 20 = .ok (.lcmp, 1) := by decide +kernel
theorem d_M_isSpan_21 : decode b_M_isSpan 21 = .ok (.ifCond .gt 7, 3) := by decide +kernel
theorem d_M_isSpan_24 : decode b_M_isSpan 24 = .ok (.iconst 1, 1) := by decide +kernel
theorem d_M_isSpan_25 : decode b_M_isSpan 25 = .ok (.goto 4, 3) := by decide +kernel
theorem d_M_isSpan_28 : decode b_M_isSpan 28 = .ok (.iconst 0, 1) := by decide +kernel
theorem d_M_isSpan_29 : decode b_M_isSpan 29 = .ok (.ireturn, 1) := by decide +kernel
theorem d_M_keepPast_0 : decode b_M_keepPast 0 = .ok (.iconst 0, 1) := by decide +kernel
theorem d_M_keepPast_1 : decode b_M_keepPast 1 = .ok (.istore_n 1, 1) := by decide +kernel
theorem d_M_keepPast_2 : decode b_M_keepPast 2 = .ok (.iload_n 1, 1) := by decide +kernel
theorem d_M_keepPast_3 : decode b_M_keepPast 3 = .ok (.sipush 828, 3) := by decide +kernel
theorem d_M_keepPast_6 : decode b_M_keepPast 6 = .ok (.if_icmp .ge 36, 3) := by decide +kernel
theorem d_M_keepPast_9 : decode b_M_keepPast 9 = .ok (.aload_n 0, 1) := by decide +kernel
theorem d_M_keepPast_10 : decode b_M_keepPast 10 = .ok (.getfield 134, 3) := by decide +kernel
theorem d_M_keepPast_13 : decode b_M_keepPast 13 = .ok (.bipush 24, 2) := by decide +kernel
theorem d_M_keepPast_15 : decode b_M_keepPast 15 = .ok (.if_icmp .ne 27, 3) := by decide +kernel
theorem d_M_keepPast_18 : decode b_M_keepPast 18 = .ok (.aload_n 0, 1) := by decide +kernel
theorem d_M_keepPast_19 : decode b_M_keepPast 19 = .ok (.getfield 7, 3) := by decide +kernel
theorem d_M_keepPast_22 : decode b_M_keepPast 22 = .ok (.bipush 36, 2) := by decide +kernel
theorem d_M_keepPast_24 : decode b_M_keepPast 24 = .ok (.iload_n 1, 1) := by decide +kernel
theorem d_M_keepPast_25 : decode b_M_keepPast 25 = .ok (.iadd, 1) := by decide +kernel
theorem d_M_keepPast_26 : decode b_M_keepPast 26 = .ok (.aload_n 0, 1) := by decide +kernel
theorem d_M_keepPast_27 : decode b_M_keepPast 27 = .ok (.getfield 7, 3) := by decide +kernel
theorem d_M_keepPast_30 : decode b_M_keepPast 30 = .ok (.bipush 72, 2) := by decide +kernel
theorem d_M_keepPast_32 : decode b_M_keepPast 32 = .ok (.iload_n 1, 1) := by decide +kernel
theorem d_M_keepPast_33 : decode b_M_keepPast 33 = .ok (.iadd, 1) := by decide +kernel
theorem d_M_keepPast_34 : decode b_M_keepPast 34 = .ok (.iaload, 1) := by decide +kernel
theorem d_M_keepPast_35 : decode b_M_keepPast 35 = .ok (.iastore, 1) := by decide +kernel
theorem d_M_keepPast_36 : decode b_M_keepPast 36 = .ok (.iinc 1 1, 3) := by decide +kernel
theorem d_M_keepPast_39 : decode b_M_keepPast 39 = .ok (.goto (-37), 3) := by decide +kernel
theorem d_M_keepPast_42 : decode b_M_keepPast 42 = .ok (.aload_n 0, 1) := by decide +kernel
theorem d_M_keepPast_43 : decode b_M_keepPast 43 = .ok (.dup, 1) := by decide +kernel
theorem d_M_keepPast_44 : decode b_M_keepPast 44 = .ok (.getfield 134, 3) := by decide +kernel
theorem d_M_keepPast_47 : decode b_M_keepPast 47 = .ok (.aload_n 0, 1) := by decide +kernel
theorem d_M_keepPast_48 : decode b_M_keepPast 48 = .ok (.getfield 134, 3) := by decide +kernel
theorem d_M_keepPast_51 : decode b_M_keepPast 51 = .ok (.bipush 24, 2) := by decide +kernel
theorem d_M_keepPast_53 : decode b_M_keepPast 53 = .ok (.if_icmp .ne 7, 3) := by decide +kernel
theorem d_M_keepPast_56 : decode b_M_keepPast 56 = .ok (.iconst 1, 1) := by decide +kernel
theorem d_M_keepPast_57 : decode b_M_keepPast 57 = .ok (.goto 4, 3) := by decide +kernel
theorem d_M_keepPast_60 : decode b_M_keepPast 60 = .ok (.iconst 0, 1) := by decide +kernel
theorem d_M_keepPast_61 : decode b_M_keepPast 61 = .ok (.isub, 1) := by decide +kernel
theorem d_M_keepPast_62 : decode b_M_keepPast 62 = .ok (.putfield 134, 3) := by decide +kernel
theorem d_M_keepPast_65 : decode b_M_keepPast 65 = .ok (.aload_n 0, 1) := by decide +kernel
theorem d_M_keepPast_66 : decode b_M_keepPast 66 = .ok (.iconst 0, 1) := by decide +kernel
theorem d_M_keepPast_67 : decode b_M_keepPast 67 = .ok (.bipush 36, 2) := by decide +kernel
theorem d_M_keepPast_69 : decode b_M_keepPast 69 = .ok (.bipush 36, 2) := by decide +kernel
theorem d_M_keepPast_71 : decode b_M_keepPast 71 = .ok (.aload_n 0, 1) := by decide +kernel
theorem d_M_keepPast_72 : decode b_M_keepPast 72 = .ok (.getfield 134, 3) := by decide +kernel
theorem d_M_keepPast_75 : decode b_M_keepPast 75 = .ok (.imul, 1) := by decide +kernel
theorem d_M_keepPast_76 : decode b_M_keepPast 76 = .ok (.iadd, 1) := by decide +kernel
theorem d_M_keepPast_77 : decode b_M_keepPast 77 = .ok (.invokevirtual 126, 3) := by decide +kernel
theorem d_M_keepPast_80 : decode b_M_keepPast 80 = .ok (.aload_n 0, 1) := by decide +kernel
theorem d_M_keepPast_81 : decode b_M_keepPast 81 = .ok (.dup, 1) := by decide +kernel
theorem d_M_keepPast_82 : decode b_M_keepPast 82 = .ok (.getfield 134, 3) := by decide +kernel
theorem d_M_keepPast_85 : decode b_M_keepPast 85 = .ok (.iconst 1, 1) := by decide +kernel
theorem d_M_keepPast_86 : decode b_M_keepPast 86 = .ok (.iadd, 1) := by decide +kernel
theorem d_M_keepPast_87 : decode b_M_keepPast 87 = .ok (.putfield 134, 3) := by decide +kernel
theorem d_M_keepPast_90 : decode b_M_keepPast 90 = .ok (.return_, 1) := by decide +kernel
theorem d_M_kind_0 : decode b_M_kind 0 = .ok (.aload_n 0, 1) := by decide +kernel
theorem d_M_kind_1 : decode b_M_kind 1 = .ok (.iload_n 1, 1) := by decide +kernel
theorem d_M_kind_2 : decode b_M_kind 2 = .ok (.invokevirtual 175, 3) := by decide +kernel
theorem d_M_kind_5 : decode b_M_kind 5 = .ok (.ifCond .eq 15, 3) := by decide +kernel
theorem d_M_kind_8 : decode b_M_kind 8 = .ok (.aload_n 0, 1) := by decide +kernel
theorem d_M_kind_9 : decode b_M_kind 9 = .ok (.getfield 7, 3) := by decide +kernel
theorem d_M_kind_12 : decode b_M_kind 12 = .ok (.bipush 6, 2) := by decide +kernel
theorem d_M_kind_14 : decode b_M_kind 14 = .ok (.iload_n 1, 1) := by decide +kernel
theorem d_M_kind_15 : decode b_M_kind 15 = .ok (.iadd, 1) := by decide +kernel
theorem d_M_kind_16 : decode b_M_kind 16 = .ok (.iaload, 1) := by decide +kernel
theorem d_M_kind_17 : decode b_M_kind 17 = .ok (.goto 5, 3) := by decide +kernel
theorem d_M_kind_20 : decode b_M_kind 20 = .ok (.ldc 55, 2) := by decide +kernel
theorem d_M_kind_22 : decode b_M_kind 22 = .ok (.ireturn, 1) := by decide +kernel
theorem d_M_kindOfLetter_0 : decode b_M_kindOfLetter 0 = .ok (.iload_n 0, 1) := by decide +kernel
theorem d_M_kindOfLetter_1 : decode b_M_kindOfLetter 1 = .ok (.bipush 98, 2) := by decide +kernel
theorem d_M_kindOfLetter_3 : decode b_M_kindOfLetter 3 = .ok (.if_icmp .ne 7, 3) := by decide +kernel
theorem d_M_kindOfLetter_6 : decode b_M_kindOfLetter 6 = .ok (.iconst 1, 1) := by decide +kernel
theorem d_M_kindOfLetter_7 : decode b_M_kindOfLetter 7 = .ok (.goto 44, 3) := by decide +kernel
theorem d_M_kindOfLetter_10 : decode b_M_kindOfLetter 10 = .ok (.iload_n 0, 1) := by decide +kernel
theorem d_M_kindOfLetter_11 : decode b_M_kindOfLetter 11 = .ok (.bipush 100, 2) := by decide +kernel
theorem d_M_kindOfLetter_13 : decode b_M_kindOfLetter 13 = .ok (.if_icmp .ne 7, 3) := by decide +kernel
theorem d_M_kindOfLetter_16 : decode b_M_kindOfLetter 16 = .ok (.iconst 2, 1) := by decide +kernel
theorem d_M_kindOfLetter_17 : decode b_M_kindOfLetter 17 = .ok (.goto 34, 3) := by decide +kernel
theorem d_M_kindOfLetter_20 : decode b_M_kindOfLetter 20 = .ok (.iload_n 0, 1) := by decide +kernel
theorem d_M_kindOfLetter_21 : decode b_M_kindOfLetter 21 = .ok (.bipush 115, 2) := by decide +kernel
theorem d_M_kindOfLetter_23 : decode b_M_kindOfLetter 23 = .ok (.if_icmp .ne 7, 3) := by decide +kernel
theorem d_M_kindOfLetter_26 : decode b_M_kindOfLetter 26 = .ok (.iconst 3, 1) := by decide +kernel
theorem d_M_kindOfLetter_27 : decode b_M_kindOfLetter 27 = .ok (.goto 24, 3) := by decide +kernel
theorem d_M_kindOfLetter_30 : decode b_M_kindOfLetter 30 = .ok (.iload_n 0, 1) := by decide +kernel
theorem d_M_kindOfLetter_31 : decode b_M_kindOfLetter 31 = .ok (.bipush 110, 2) := by decide +kernel
theorem d_M_kindOfLetter_33 : decode b_M_kindOfLetter 33 = .ok (.if_icmp .ne 7, 3) := by decide +kernel
theorem d_M_kindOfLetter_36 : decode b_M_kindOfLetter 36 = .ok (.iconst 4, 1) := by decide +kernel
theorem d_M_kindOfLetter_37 : decode b_M_kindOfLetter 37 = .ok (.goto 14, 3) := by decide +kernel
theorem d_M_kindOfLetter_40 : decode b_M_kindOfLetter 40 = .ok (.iload_n 0, 1) := by decide +kernel
theorem d_M_kindOfLetter_41 : decode b_M_kindOfLetter 41 = .ok (.bipush 101, 2) := by decide +kernel
theorem d_M_kindOfLetter_43 : decode b_M_kindOfLetter 43 = .ok (.if_icmp .ne 7, 3) := by decide +kernel
theorem d_M_kindOfLetter_46 : decode b_M_kindOfLetter 46 = .ok (.iconst 5, 1) := by decide +kernel
theorem d_M_kindOfLetter_47 : decode b_M_kindOfLetter 47 = .ok (.goto 4, 3) := by decide +kernel
theorem d_M_kindOfLetter_50 : decode b_M_kindOfLetter 50 = .ok (.iconst 0, 1) := by decide +kernel
theorem d_M_kindOfLetter_51 : decode b_M_kindOfLetter 51 = .ok (.ireturn, 1) := by decide +kernel
theorem d_M_layTried_0 : decode b_M_layTried 0 = .ok (.aload_n 0, 1) := by decide +kernel
theorem d_M_layTried_1 : decode b_M_layTried 1 = .ok (.iconst 0, 1) := by decide +kernel
theorem d_M_layTried_2 : decode b_M_layTried 2 = .ok (.sipush 972, 3) := by decide +kernel
theorem d_M_layTried_5 : decode b_M_layTried 5 = .ok (.invokevirtual 126, 3) := by decide +kernel
theorem d_M_layTried_8 : decode b_M_layTried 8 = .ok (.return_, 1) := by decide +kernel
theorem d_M_lentMark_0 : decode b_M_lentMark 0 = .ok (.aload_n 0, 1) := by decide +kernel
theorem d_M_lentMark_1 : decode b_M_lentMark 1 = .ok (.bipush 20, 2) := by decide +kernel
theorem d_M_lentMark_3 : decode b_M_lentMark 3 = .ok (.invokevirtual 250, 3) := by decide +kernel
theorem d_M_lentMark_6 : decode b_M_lentMark 6 = .ok (.iload_n 1, 1) := by decide +kernel
theorem d_M_lentMark_7 : decode b_M_lentMark 7 = .ok (.ireturn, 1) := by decide +kernel
theorem d_M_lentSize_0 : decode b_M_lentSize 0 = .ok (.aload_n 0, 1) := by decide +kernel
theorem d_M_lentSize_1 : decode b_M_lentSize 1 = .ok (.bipush 10, 2) := by decide +kernel
theorem d_M_lentSize_3 : decode b_M_lentSize 3 = .ok (.invokevirtual 250, 3) := by decide +kernel
theorem d_M_lentSize_6 : decode b_M_lentSize 6 = .ok (.aload_n 0, 1) := by decide +kernel
theorem d_M_lentSize_7 : decode b_M_lentSize 7 = .ok (.getfield 7, 3) := by decide +kernel
theorem d_M_lentSize_10 : decode b_M_lentSize 10 = .ok (.bipush 18, 2) := by decide +kernel
theorem d_M_lentSize_12 : decode b_M_lentSize 12 = .ok (.iload_n 1, 1) := by decide +kernel
theorem d_M_lentSize_13 : decode b_M_lentSize 13 = .ok (.iadd, 1) := by decide +kernel
theorem d_M_lentSize_14 : decode b_M_lentSize 14 = .ok (.iaload, 1) := by decide +kernel
theorem d_M_lentSize_15 : decode b_M_lentSize 15 = .ok (.ireturn, 1) := by decide +kernel
theorem d_M_letter_0 : decode b_M_letter 0 = .ok (.aload_n 0, 1) := by decide +kernel
theorem d_M_letter_1 : decode b_M_letter 1 = .ok (.iload_n 1, 1) := by decide +kernel
theorem d_M_letter_2 : decode b_M_letter 2 = .ok (.invokevirtual 175, 3) := by decide +kernel
theorem d_M_letter_5 : decode b_M_letter 5 = .ok (.ifCond .ne 6, 3) := by decide +kernel
theorem d_M_letter_8 : decode b_M_letter 8 = .ok (.ldc 55, 2) := by decide +kernel
theorem d_M_letter_10 : decode b_M_letter 10 = .ok (.ireturn, 1) := by decide +kernel
theorem d_M_letter_11 : decode b_M_letter 11 = .ok (.iload_n 2, 1) := by decide +kernel
theorem d_M_letter_12 : decode b_M_letter 12 = .ok (.tableswitch 98 0 5 #[40, 50, 60, 70, 81, 91], 40) := by decide +kernel
theorem d_M_letter_52 : decode b_M_letter 52 = .ok (.aload_n 0, 1) := by decide +kernel
theorem d_M_letter_53 : decode b_M_letter 53 = .ok (.getfield 7, 3) := by decide +kernel
theorem d_M_letter_56 : decode b_M_letter 56 = .ok (.bipush 12, 2) := by decide +kernel
theorem d_M_letter_58 : decode b_M_letter 58 = .ok (.iload_n 1, 1) := by decide +kernel
theorem d_M_letter_59 : decode b_M_letter 59 = .ok (.iadd, 1) := by decide +kernel
theorem d_M_letter_60 : decode b_M_letter 60 = .ok (.iaload, 1) := by decide +kernel
theorem d_M_letter_61 : decode b_M_letter 61 = .ok (.ireturn, 1) := by decide +kernel
theorem d_M_letter_62 : decode b_M_letter 62 = .ok (.aload_n 0, 1) := by decide +kernel
theorem d_M_letter_63 : decode b_M_letter 63 = .ok (.getfield 7, 3) := by decide +kernel
theorem d_M_letter_66 : decode b_M_letter 66 = .ok (.bipush 18, 2) := by decide +kernel
theorem d_M_letter_68 : decode b_M_letter 68 = .ok (.iload_n 1, 1) := by decide +kernel
theorem d_M_letter_69 : decode b_M_letter 69 = .ok (.iadd, 1) := by decide +kernel
theorem d_M_letter_70 : decode b_M_letter 70 = .ok (.iaload, 1) := by decide +kernel
theorem d_M_letter_71 : decode b_M_letter 71 = .ok (.ireturn, 1) := by decide +kernel
theorem d_M_letter_72 : decode b_M_letter 72 = .ok (.aload_n 0, 1) := by decide +kernel
theorem d_M_letter_73 : decode b_M_letter 73 = .ok (.getfield 7, 3) := by decide +kernel
theorem d_M_letter_76 : decode b_M_letter 76 = .ok (.bipush 24, 2) := by decide +kernel
theorem d_M_letter_78 : decode b_M_letter 78 = .ok (.iload_n 1, 1) := by decide +kernel
theorem d_M_letter_79 : decode b_M_letter 79 = .ok (.iadd, 1) := by decide +kernel
theorem d_M_letter_80 : decode b_M_letter 80 = .ok (.iaload, 1) := by decide +kernel
theorem d_M_letter_81 : decode b_M_letter 81 = .ok (.ireturn, 1) := by decide +kernel
theorem d_M_letter_82 : decode b_M_letter 82 = .ok (.aload_n 0, 1) := by decide +kernel
theorem d_M_letter_83 : decode b_M_letter 83 = .ok (.getfield 7, 3) := by decide +kernel
theorem d_M_letter_86 : decode b_M_letter 86 = .ok (.iconst 3, 1) := by decide +kernel
theorem d_M_letter_87 : decode b_M_letter 87 = .ok (.iaload, 1) := by decide +kernel
theorem d_M_letter_88 : decode b_M_letter 88 = .ok (.iload_n 1, 1) := by decide +kernel
theorem d_M_letter_89 : decode b_M_letter 89 = .ok (.ishr, 1) := by decide +kernel
theorem d_M_letter_90 : decode b_M_letter 90 = .ok (.iconst 1, 1) := by decide +kernel
theorem d_M_letter_91 : decode b_M_letter 91 = .ok (.iand, 1) := by decide +kernel
theorem d_M_letter_92 : decode b_M_letter 92 = .ok (.ireturn, 1) := by decide +kernel
theorem d_M_letter_93 : decode b_M_letter 93 = .ok (.aload_n 0, 1) := by decide +kernel
theorem d_M_letter_94 : decode b_M_letter 94 = .ok (.getfield 7, 3) := by decide +kernel
theorem d_M_letter_97 : decode b_M_letter 97 = .ok (.bipush 30, 2) := by decide +kernel
theorem d_M_letter_99 : decode b_M_letter 99 = .ok (.iload_n 1, 1) := by decide +kernel
theorem d_M_letter_100 : decode b_M_letter 100 = .ok (.iadd, 1) := by decide +kernel
theorem d_M_letter_101 : decode b_M_letter 101 = .ok (.iaload, 1) := by decide +kernel
theorem d_M_letter_102 : decode b_M_letter 102 = .ok (.ireturn, 1) := by decide +kernel
theorem d_M_letter_103 : decode b_M_letter 103 = .ok (.aload_n 0, 1) := by decide +kernel
theorem d_M_letter_104 : decode b_M_letter 104 = .ok (.iconst 0, 1) := by decide +kernel
theorem d_M_letter_105 : decode b_M_letter 105 = .ok (.iload_n 1, 1) := by decide +kernel
theorem d_M_letter_106 : decode b_M_letter 106 = .ok (.invokevirtual 144, 3) := by decide +kernel
theorem d_M_letter_109 : decode b_M_letter 109 = .ok (.ireturn, 1) := by decide +kernel
theorem d_M_letter_110 : decode b_M_letter 110 = .ok (.ldc 55, 2) := by decide +kernel
theorem d_M_letter_112 : decode b_M_letter 112 = .ok (.ireturn, 1) := by decide +kernel
theorem d_M_lost_0 : decode b_M_lost 0 = .ok (.aload_n 0, 1) := by decide +kernel
theorem d_M_lost_1 : decode b_M_lost 1 = .ok (.getfield 130, 3) := by decide +kernel
theorem d_M_lost_4 : decode b_M_lost 4 = .ok (.ifCond .ne 6, 3) := by decide +kernel
theorem d_M_lost_7 : decode b_M_lost 7 = .ok (.ldc 137, 2) := by decide +kernel
theorem d_M_lost_9 : decode b_M_lost 9 = .ok (.ireturn, 1) := by decide +kernel
theorem d_M_lost_10 : decode b_M_lost 10 = .ok (.iload_n 1, 1) := by decide +kernel
theorem d_M_lost_11 : decode b_M_lost 11 = .ok (.i2l, 1) := by decide +kernel
theorem d_M_lost_12 : decode b_M_lost 12 = .ok (.lconst 0, 1) := by decide +kernel
theorem d_M_lost_13 : decode b_M_lost 13 = .ok (.ldc2_w 223, 3) := by decide +kernel
theorem d_M_lost_16 : decode b_M_lost 16 = .ok (.invokestatic 45, 3) := by decide +kernel
theorem d_M_lost_19 : decode b_M_lost 19 = .ok (.ifCond .eq 25, 3) := by decide +kernel
theorem d_M_lost_22 : decode b_M_lost 22 = .ok (.iload_n 2, 1) := by decide +kernel
theorem d_M_lost_23 : decode b_M_lost 23 = .ok (.i2l, 1) := by decide +kernel
theorem d_M_lost_24 : decode b_M_lost 24 = .ok (.lconst 0, 1) := by decide +kernel
theorem d_M_lost_25 : decode b_M_lost 25 = .ok (.ldc2_w 234, 3) := by decide +kernel
theorem d_M_lost_28 : decode b_M_lost 28 = .ok (.invokestatic 45, 3) := by decide +kernel
theorem d_M_lost_31 : decode b_M_lost 31 = .ok (.ifCond .eq 13, 3) := by decide +kernel
theorem d_M_lost_34 : decode b_M_lost 34 = .ok (.iload_n 3, 1) := by decide +kernel
theorem d_M_lost_35 : decode b_M_lost 35 = .ok (.i2l, 1) := by decide +kernel
theorem d_M_lost_36 : decode b_M_lost 36 = .ok (.lconst 0, 1) := by decide +kernel
theorem d_M_lost_37 : decode b_M_lost 37 = .ok (.lconst 1, 1) := by decide +kernel
theorem d_M_lost_38 : decode b_M_lost 38 = .ok (.invokestatic 45, 3) := by decide +kernel
theorem d_M_lost_41 : decode b_M_lost 41 = .ok (.ifCond .ne 6, 3) := by decide +kernel
theorem d_M_lost_44 : decode b_M_lost 44 = .ok (.ldc 55, 2) := by decide +kernel
theorem d_M_lost_46 : decode b_M_lost 46 = .ok (.ireturn, 1) := by decide +kernel
theorem d_M_lost_47 : decode b_M_lost 47 = .ok (.iconst 0, 1) := by decide +kernel
theorem d_M_lost_48 : decode b_M_lost 48 = .ok (.istore 4, 2) := by decide +kernel
theorem d_M_lost_50 : decode b_M_lost 50 = .ok (.iconst 0, 1) := by decide +kernel
theorem d_M_lost_51 : decode b_M_lost 51 = .ok (.istore 5, 2) := by decide +kernel
theorem d_M_lost_53 : decode b_M_lost 53 = .ok (.iconst 0, 1) := by decide +kernel
theorem d_M_lost_54 : decode b_M_lost 54 = .ok (.istore 6, 2) := by decide +kernel
theorem d_M_lost_56 : decode b_M_lost 56 = .ok (.iload 6, 2) := by decide +kernel
theorem d_M_lost_58 : decode b_M_lost 58 = .ok (.bipush 64, 2) := by decide +kernel
theorem d_M_lost_60 : decode b_M_lost 60 = .ok (.if_icmp .ge 135, 3) := by decide +kernel
theorem d_M_lost_63 : decode b_M_lost 63 = .ok (.iload 6, 2) := by decide +kernel
theorem d_M_lost_65 : decode b_M_lost 65 = .ok (.aload_n 0, 1) := by decide +kernel
theorem d_M_lost_66 : decode b_M_lost 66 = .ok (.getfield 7, 3) := by decide +kernel
theorem d_M_lost_69 : decode b_M_lost 69 = .ok (.iconst 3, 1) := by decide +kernel
theorem d_M_lost_70 : decode b_M_lost 70 = .ok (.iaload, 1) := by decide +kernel
theorem d_M_lost_71 : decode b_M_lost 71 = .ok (.iconst (-1), 1) := by decide +kernel
theorem d_M_lost_72 : decode b_M_lost 72 = .ok (.ixor, 1) := by decide +kernel
theorem d_M_lost_73 : decode b_M_lost 73 = .ok (.iand, 1) := by decide +kernel
theorem d_M_lost_74 : decode b_M_lost 74 = .ok (.ifCond .ne 7, 3) := by decide +kernel
theorem d_M_lost_77 : decode b_M_lost 77 = .ok (.iconst 1, 1) := by decide +kernel
theorem d_M_lost_78 : decode b_M_lost 78 = .ok (.goto 4, 3) := by decide +kernel
theorem d_M_lost_81 : decode b_M_lost 81 = .ok (.iconst 0, 1) := by decide +kernel
theorem d_M_lost_82 : decode b_M_lost 82 = .ok (.istore 7, 2) := by decide +kernel
theorem d_M_lost_84 : decode b_M_lost 84 = .ok (.iconst 0, 1) := by decide +kernel
theorem d_M_lost_85 : decode b_M_lost 85 = .ok (.istore 8, 2) := by decide +kernel
theorem d_M_lost_87 : decode b_M_lost 87 = .ok (.iload 8, 2) := by decide +kernel
theorem d_M_lost_89 : decode b_M_lost 89 = .ok (.bipush 6, 2) := by decide +kernel
theorem d_M_lost_91 : decode b_M_lost 91 = .ok (.if_icmp .ge 50, 3) := by decide +kernel
theorem d_M_lost_94 : decode b_M_lost 94 = .ok (.iload 7, 2) := by decide +kernel
theorem d_M_lost_96 : decode b_M_lost 96 = .ok (.aload_n 0, 1) := by decide +kernel
theorem d_M_lost_97 : decode b_M_lost 97 = .ok (.getfield 7, 3) := by decide +kernel
theorem d_M_lost_100 : decode b_M_lost 100 = .ok (.iconst 3, 1) := by decide +kernel
theorem d_M_lost_101 : decode b_M_lost 101 = .ok (.iaload, 1) := by decide +kernel
theorem d_M_lost_102 : decode b_M_lost 102 = .ok (.iload 8, 2) := by decide +kernel
theorem d_M_lost_104 : decode b_M_lost 104 = .ok (.invokestatic 138, 3) := by decide +kernel
theorem d_M_lost_107 : decode b_M_lost 107 = .ok (.ifCond .eq 24, 3) := by decide +kernel
theorem d_M_lost_110 : decode b_M_lost 110 = .ok (.iload 6, 2) := by decide +kernel
theorem d_M_lost_112 : decode b_M_lost 112 = .ok (.iload 8, 2) := by decide +kernel
theorem d_M_lost_114 : decode b_M_lost 114 = .ok (.invokestatic 138, 3) := by decide +kernel
theorem d_M_lost_117 : decode b_M_lost 117 = .ok (.ifCond .eq 7, 3) := by decide +kernel
theorem d_M_lost_120 : decode b_M_lost 120 = .ok (.iload_n 2, 1) := by decide +kernel
theorem d_M_lost_121 : decode b_M_lost 121 = .ok (.goto 11, 3) := by decide +kernel
theorem d_M_lost_124 : decode b_M_lost 124 = .ok (.bipush 10, 2) := by decide +kernel
theorem d_M_lost_126 : decode b_M_lost 126 = .ok (.iload_n 2, 1) := by decide +kernel
theorem d_M_lost_127 : decode b_M_lost 127 = .ok (.isub, 1) := by decide +kernel
theorem d_M_lost_128 : decode b_M_lost 128 = .ok (.goto 4, 3) := by decide +kernel
theorem d_M_lost_131 : decode b_M_lost 131 = .ok (.iconst 1, 1) := by decide +kernel
theorem d_M_lost_132 : decode b_M_lost 132 = .ok (.imul, 1) := by decide +kernel
theorem d_M_lost_133 : decode b_M_lost 133 = .ok (.istore 7, 2) := by decide +kernel
theorem d_M_lost_135 : decode b_M_lost 135 = .ok (.iinc 8 1, 3) := by decide +kernel
theorem d_M_lost_138 : decode b_M_lost 138 = .ok (.goto (-51), 3) := by decide +kernel
theorem d_M_lost_141 : decode b_M_lost 141 = .ok (.aload_n 0, 1) := by decide +kernel
theorem d_M_lost_142 : decode b_M_lost 142 = .ok (.invokevirtual 188, 3) := by decide +kernel
theorem d_M_lost_145 : decode b_M_lost 145 = .ok (.aload_n 0, 1) := by decide +kernel
theorem d_M_lost_146 : decode b_M_lost 146 = .ok (.getfield 7, 3) := by decide +kernel
theorem d_M_lost_149 : decode b_M_lost 149 = .ok (.sipush 975, 3) := by decide +kernel
theorem d_M_lost_152 : decode b_M_lost 152 = .ok (.dup2, 1) := by decide +kernel
theorem d_M_lost_153 : decode b_M_lost 153 = .ok (.iaload, 1) := by decide +kernel
theorem d_M_lost_154 : decode b_M_lost 154 = .ok (.iload 6, 2) := by decide +kernel
theorem d_M_lost_156 : decode b_M_lost 156 = .ok (.iconst (-1), 1) := by decide +kernel
theorem d_M_lost_157 : decode b_M_lost 157 = .ok (.ixor, 1) := by decide +kernel
theorem d_M_lost_158 : decode b_M_lost 158 = .ok (.iand, 1) := by decide +kernel
theorem d_M_lost_159 : decode b_M_lost 159 = .ok (.iastore, 1) := by decide +kernel
theorem d_M_lost_160 : decode b_M_lost 160 = .ok (.iload 4, 2) := by decide +kernel
theorem d_M_lost_162 : decode b_M_lost 162 = .ok (.aload_n 0, 1) := by decide +kernel
theorem d_M_lost_163 : decode b_M_lost 163 = .ok (.sipush 972, 3) := by decide +kernel
theorem d_M_lost_166 : decode b_M_lost 166 = .ok (.invokevirtual 157, 3) := by decide +kernel
theorem d_M_lost_169 : decode b_M_lost 169 = .ok (.iload_n 1, 1) := by decide +kernel
theorem d_M_lost_170 : decode b_M_lost 170 = .ok (.if_icmp .gt 8, 3) := by decide +kernel
theorem d_M_lost_173 : decode b_M_lost 173 = .ok (.iload 7, 2) := by decide +kernel
theorem d_M_lost_175 : decode b_M_lost 175 = .ok (.goto 4, 3) := by decide +kernel
theorem d_M_lost_178 : decode b_M_lost 178 = .ok (.iconst 0, 1) := by decide +kernel
theorem d_M_lost_179 : decode b_M_lost 179 = .ok (.iadd, 1) := by decide +kernel
theorem d_M_lost_180 : decode b_M_lost 180 = .ok (.istore 4, 2) := by decide +kernel
theorem d_M_lost_182 : decode b_M_lost 182 = .ok (.iload 5, 2) := by decide +kernel
theorem d_M_lost_184 : decode b_M_lost 184 = .ok (.iload 7, 2) := by decide +kernel
theorem d_M_lost_186 : decode b_M_lost 186 = .ok (.iadd, 1) := by decide +kernel
theorem d_M_lost_187 : decode b_M_lost 187 = .ok (.istore 5, 2) := by decide +kernel
theorem d_M_lost_189 : decode b_M_lost 189 = .ok (.iinc 6 1, 3) := by decide +kernel
theorem d_M_lost_192 : decode b_M_lost 192 = .ok (.goto (-136), 3) := by decide +kernel
theorem d_M_lost_195 : decode b_M_lost 195 = .ok (.iload 4, 2) := by decide +kernel
theorem d_M_lost_197 : decode b_M_lost 197 = .ok (.istore 6, 2) := by decide +kernel
theorem d_M_lost_199 : decode b_M_lost 199 = .ok (.iload 5, 2) := by decide +kernel
theorem d_M_lost_201 : decode b_M_lost 201 = .ok (.istore 7, 2) := by decide +kernel
theorem d_M_lost_203 : decode b_M_lost 203 = .ok (.iload 7, 2) := by decide +kernel
theorem d_M_lost_205 : decode b_M_lost 205 = .ok (.ifCond .eq 21, 3) := by decide +kernel
theorem d_M_lost_208 : decode b_M_lost 208 = .ok (.iload 6, 2) := by decide +kernel
theorem d_M_lost_210 : decode b_M_lost 210 = .ok (.iload 7, 2) := by decide +kernel
theorem d_M_lost_212 : decode b_M_lost 212 = .ok (.irem, 1) := by decide +kernel
theorem d_M_lost_213 : decode b_M_lost 213 = .ok (.istore 8, 2) := by decide +kernel
theorem d_M_lost_215 : decode b_M_lost 215 = .ok (.iload 7, 2) := by decide +kernel
theorem d_M_lost_217 : decode b_M_lost 217 = .ok (.istore 6, 2) := by decide +kernel
theorem d_M_lost_219 : decode b_M_lost 219 = .ok (.iload 8, 2) := by decide +kernel
theorem d_M_lost_221 : decode b_M_lost 221 = .ok (.istore 7, 2) := by decide +kernel
theorem d_M_lost_223 : decode b_M_lost 223 = .ok (.goto (-20), 3) := by decide +kernel
theorem d_M_lost_226 : decode b_M_lost 226 = .ok (.iload_n 3, 1) := by decide +kernel
theorem d_M_lost_227 : decode b_M_lost 227 = .ok (.ifCond .ne 11, 3) := by decide +kernel
theorem d_M_lost_230 : decode b_M_lost 230 = .ok (.iload 4, 2) := by decide +kernel
theorem d_M_lost_232 : decode b_M_lost 232 = .ok (.iload 6, 2) := by decide +kernel
theorem d_M_lost_234 : decode b_M_lost 234 = .ok (.idiv, 1) := by decide +kernel
theorem d_M_lost_235 : decode b_M_lost 235 = .ok (.goto 8, 3) := by decide +kernel
theorem d_M_lost_238 : decode b_M_lost 238 = .ok (.iload 5, 2) := by decide +kernel
theorem d_M_lost_240 : decode b_M_lost 240 = .ok (.iload 6, 2) := by decide +kernel
theorem d_M_lost_242 : decode b_M_lost 242 = .ok (.idiv, 1) := by decide +kernel
theorem d_M_lost_243 : decode b_M_lost 243 = .ok (.ireturn, 1) := by decide +kernel
theorem d_M_mark_0 : decode b_M_mark 0 = .ok (.aload_n 0, 1) := by decide +kernel
theorem d_M_mark_1 : decode b_M_mark 1 = .ok (.getfield 7, 3) := by decide +kernel
theorem d_M_mark_4 : decode b_M_mark 4 = .ok (.bipush 6, 2) := by decide +kernel
theorem d_M_mark_6 : decode b_M_mark 6 = .ok (.iload_n 1, 1) := by decide +kernel
theorem d_M_mark_7 : decode b_M_mark 7 = .ok (.iadd, 1) := by decide +kernel
theorem d_M_mark_8 : decode b_M_mark 8 = .ok (.iaload, 1) := by decide +kernel
theorem d_M_mark_9 : decode b_M_mark 9 = .ok (.lookupswitch 57 #[(2, 43), (3, 27)], 27) := by decide +kernel
theorem d_M_mark_36 : decode b_M_mark 36 = .ok (.aload_n 0, 1) := by decide +kernel
theorem d_M_mark_37 : decode b_M_mark 37 = .ok (.bipush 22, 2) := by decide +kernel
theorem d_M_mark_39 : decode b_M_mark 39 = .ok (.invokevirtual 250, 3) := by decide +kernel
theorem d_M_mark_42 : decode b_M_mark 42 = .ok (.aload_n 0, 1) := by decide +kernel
theorem d_M_mark_43 : decode b_M_mark 43 = .ok (.iload_n 1, 1) := by decide +kernel
theorem d_M_mark_44 : decode b_M_mark 44 = .ok (.invokevirtual 268, 3) := by decide +kernel
theorem d_M_mark_47 : decode b_M_mark 47 = .ok (.sipush 1000, 3) := by decide +kernel
theorem d_M_mark_50 : decode b_M_mark 50 = .ok (.isub, 1) := by decide +kernel
theorem d_M_mark_51 : decode b_M_mark 51 = .ok (.ireturn, 1) := by decide +kernel
theorem d_M_mark_52 : decode b_M_mark 52 = .ok (.aload_n 0, 1) := by decide +kernel
theorem d_M_mark_53 : decode b_M_mark 53 = .ok (.bipush 24, 2) := by decide +kernel
theorem d_M_mark_55 : decode b_M_mark 55 = .ok (.invokevirtual 250, 3) := by decide +kernel
theorem d_M_mark_58 : decode b_M_mark 58 = .ok (.iconst 2, 1) := by decide +kernel
theorem d_M_mark_59 : decode b_M_mark 59 = .ok (.aload_n 0, 1) := by decide +kernel
theorem d_M_mark_60 : decode b_M_mark 60 = .ok (.iload_n 1, 1) := by decide +kernel
theorem d_M_mark_61 : decode b_M_mark 61 = .ok (.invokevirtual 268, 3) := by decide +kernel
theorem d_M_mark_64 : decode b_M_mark 64 = .ok (.imul, 1) := by decide +kernel
theorem d_M_mark_65 : decode b_M_mark 65 = .ok (.ireturn, 1) := by decide +kernel
theorem d_M_mark_66 : decode b_M_mark 66 = .ok (.aload_n 0, 1) := by decide +kernel
theorem d_M_mark_67 : decode b_M_mark 67 = .ok (.iload_n 1, 1) := by decide +kernel
theorem d_M_mark_68 : decode b_M_mark 68 = .ok (.invokevirtual 268, 3) := by decide +kernel
theorem d_M_mark_71 : decode b_M_mark 71 = .ok (.ireturn, 1) := by decide +kernel
theorem d_M_narrow_0 : decode b_M_narrow 0 = .ok (.iload_n 1, 1) := by decide +kernel
theorem d_M_narrow_1 : decode b_M_narrow 1 = .ok (.ifCond .ne 8, 3) := by decide +kernel
theorem d_M_narrow_4 : decode b_M_narrow 4 = .ok (.iload_n 0, 1) := by decide +kernel
theorem d_M_narrow_5 : decode b_M_narrow 5 = .ok (.i2b, 1) := by decide +kernel
theorem d_M_narrow_6 : decode b_M_narrow 6 = .ok (.goto 14, 3) := by decide +kernel
theorem d_M_narrow_9 : decode b_M_narrow 9 = .ok (.iload_n 1, 1) := by decide +kernel
theorem d_M_narrow_10 : decode b_M_narrow 10 = .ok (.iconst 1, 1) := by decide +kernel
theorem d_M_narrow_11 : decode b_M_narrow 11 = .ok (.if_icmp .ne 8, 3) := by decide +kernel
theorem d_M_narrow_14 : decode b_M_narrow 14 = .ok (.iload_n 0, 1) := by decide +kernel
theorem d_M_narrow_15 : decode b_M_narrow 15 = .ok (.i2s, 1) := by decide +kernel
theorem d_M_narrow_16 : decode b_M_narrow 16 = .ok (.goto 4, 3) := by decide +kernel
theorem d_M_narrow_19 : decode b_M_narrow 19 = .ok (.iload_n 0, 1) := by decide +kernel
theorem d_M_narrow_20 : decode b_M_narrow 20 = .ok (.ireturn, 1) := by decide +kernel
theorem d_M_nextLine_0 : decode b_M_nextLine 0 = .ok (.iload_n 1, 1) := by decide +kernel
theorem d_M_nextLine_1 : decode b_M_nextLine 1 = .ok (.iconst 2, 1) := by decide +kernel
theorem d_M_nextLine_2 : decode b_M_nextLine 2 = .ok (.isub, 1) := by decide +kernel
theorem d_M_nextLine_3 : decode b_M_nextLine 3 = .ok (.istore_n 2, 1) := by decide +kernel
theorem d_M_nextLine_4 : decode b_M_nextLine 4 = .ok (.iload_n 2, 1) := by decide +kernel
theorem d_M_nextLine_5 : decode b_M_nextLine 5 = .ok (.ifCond .lt 26, 3) := by decide +kernel
theorem d_M_nextLine_8 : decode b_M_nextLine 8 = .ok (.aload_n 0, 1) := by decide +kernel
theorem d_M_nextLine_9 : decode b_M_nextLine 9 = .ok (.getfield 32, 3) := by decide +kernel
theorem d_M_nextLine_12 : decode b_M_nextLine 12 = .ok (.iload_n 2, 1) := by decide +kernel
theorem d_M_nextLine_13 : decode b_M_nextLine 13 = .ok (.iaload, 1) := by decide +kernel
theorem d_M_nextLine_14 : decode b_M_nextLine 14 = .ok (.aload_n 0, 1) := by decide +kernel
theorem d_M_nextLine_15 : decode b_M_nextLine 15 = .ok (.getfield 32, 3) := by decide +kernel
theorem d_M_nextLine_18 : decode b_M_nextLine 18 = .ok (.iload_n 2, 1) := by decide +kernel
theorem d_M_nextLine_19 : decode b_M_nextLine 19 = .ok (.iconst 1, 1) := by decide +kernel
theorem d_M_nextLine_20 : decode b_M_nextLine 20 = .ok (.iadd, 1) := by decide +kernel
theorem d_M_nextLine_21 : decode b_M_nextLine 21 = .ok (.iaload, 1) := by decide +kernel
theorem d_M_nextLine_22 : decode b_M_nextLine 22 = .ok (.if_icmp .le 9, 3) := by decide +kernel
theorem d_M_nextLine_25 : decode b_M_nextLine 25 = .ok (.iinc 2 (-1), 3) := by decide +kernel
theorem d_M_nextLine_28 : decode b_M_nextLine 28 = .ok (.goto (-24), 3) := by decide +kernel
theorem d_M_nextLine_31 : decode b_M_nextLine 31 = .ok (.iload_n 2, 1) := by decide +kernel
theorem d_M_nextLine_32 : decode b_M_nextLine 32 = .ok (.ifCond .ge 5, 3) := by decide +kernel
theorem d_M_nextLine_35 : decode b_M_nextLine 35 = .ok (.iconst 0, 1) := by decide +kernel
theorem d_M_nextLine_36 : decode b_M_nextLine 36 = .ok (.ireturn, 1) := by decide +kernel
theorem d_M_nextLine_37 : decode b_M_nextLine 37 = .ok (.iload_n 1, 1) := by decide +kernel
theorem d_M_nextLine_38 : decode b_M_nextLine 38 = .ok (.iconst 1, 1) := by decide +kernel
theorem d_M_nextLine_39 : decode b_M_nextLine 39 = .ok (.isub, 1) := by decide +kernel
theorem d_M_nextLine_40 : decode b_M_nextLine 40 = .ok (.istore_n 3, 1) := by decide +kernel
theorem d_M_nextLine_41 : decode b_M_nextLine 41 = .ok (.aload_n 0, 1) := by decide +kernel
theorem d_M_nextLine_42 : decode b_M_nextLine 42 = .ok (.getfield 32, 3) := by decide +kernel
theorem d_M_nextLine_45 : decode b_M_nextLine 45 = .ok (.iload_n 3, 1) := by decide +kernel
theorem d_M_nextLine_46 : decode b_M_nextLine 46 = .ok (.iaload, 1) := by decide +kernel
theorem d_M_nextLine_47 : decode b_M_nextLine 47 = .ok (.aload_n 0, 1) := by decide +kernel
theorem d_M_nextLine_48 : decode b_M_nextLine 48 = .ok (.getfield 32, 3) := by decide +kernel
theorem d_M_nextLine_51 : decode b_M_nextLine 51 = .ok (.iload_n 2, 1) := by decide +kernel
theorem d_M_nextLine_52 : decode b_M_nextLine 52 = .ok (.iaload, 1) := by decide +kernel
theorem d_M_nextLine_53 : decode b_M_nextLine 53 = .ok (.if_icmp .ge 9, 3) := by decide +kernel
theorem d_M_nextLine_56 : decode b_M_nextLine 56 = .ok (.iinc 3 (-1), 3) := by decide +kernel
theorem d_M_nextLine_59 : decode b_M_nextLine 59 = .ok (.goto (-18), 3) := by decide +kernel
theorem d_M_nextLine_62 : decode b_M_nextLine 62 = .ok (.aload_n 0, 1) := by decide +kernel
theorem d_M_nextLine_63 : decode b_M_nextLine 63 = .ok (.iload_n 2, 1) := by decide +kernel
theorem d_M_nextLine_64 : decode b_M_nextLine 64 = .ok (.iload_n 3, 1) := by decide +kernel
theorem d_M_nextLine_65 : decode b_M_nextLine 65 = .ok (.invokevirtual 197, 3) := by decide +kernel
theorem d_M_nextLine_68 : decode b_M_nextLine 68 = .ok (.iload_n 2, 1) := by decide +kernel
theorem d_M_nextLine_69 : decode b_M_nextLine 69 = .ok (.iconst 1, 1) := by decide +kernel
theorem d_M_nextLine_70 : decode b_M_nextLine 70 = .ok (.iadd, 1) := by decide +kernel
theorem d_M_nextLine_71 : decode b_M_nextLine 71 = .ok (.istore 4, 2) := by decide +kernel
theorem d_M_nextLine_73 : decode b_M_nextLine 73 = .ok (.iload_n 1, 1) := by decide +kernel
theorem d_M_nextLine_74 : decode b_M_nextLine 74 = .ok (.iconst 1, 1) := by decide +kernel
theorem d_M_nextLine_75 : decode b_M_nextLine 75 = .ok (.isub, 1) := by decide +kernel
theorem d_M_nextLine_76 : decode b_M_nextLine 76 = .ok (.istore 5, 2) := by decide +kernel
theorem d_M_nextLine_78 : decode b_M_nextLine 78 = .ok (.iload 4, 2) := by decide +kernel
theorem d_M_nextLine_80 : decode b_M_nextLine 80 = .ok (.iload 5, 2) := by decide +kernel
theorem d_M_nextLine_82 : decode b_M_nextLine 82 = .ok (.if_icmp .ge 20, 3) := by decide +kernel
theorem d_M_nextLine_85 : decode b_M_nextLine 85 = .ok (.aload_n 0, 1) := by decide +kernel
theorem d_M_nextLine_86 : decode b_M_nextLine 86 = .ok (.iload 4, 2) := by decide +kernel
theorem d_M_nextLine_88 : decode b_M_nextLine 88 = .ok (.iload 5, 2) := by decide +kernel
theorem d_M_nextLine_90 : decode b_M_nextLine 90 = .ok (.invokevirtual 197, 3) := by decide +kernel
theorem d_M_nextLine_93 : decode b_M_nextLine 93 = .ok (.iinc 4 1, 3) := by decide +kernel
theorem d_M_nextLine_96 : decode b_M_nextLine 96 = .ok (.iinc 5 (-1), 3) := by decide +kernel
theorem d_M_nextLine_99 : decode b_M_nextLine 99 = .ok (.goto (-21), 3) := by decide +kernel
theorem d_M_nextLine_102 : decode b_M_nextLine 102 = .ok (.iconst 1, 1) := by decide +kernel
theorem d_M_nextLine_103 : decode b_M_nextLine 103 = .ok (.ireturn, 1) := by decide +kernel
theorem d_M_nextToFall_0 : decode b_M_nextToFall 0 = .ok (.ldc 147, 2) := by decide +kernel
theorem d_M_nextToFall_2 : decode b_M_nextToFall 2 = .ok (.istore_n 2, 1) := by decide +kernel
theorem d_M_nextToFall_3 : decode b_M_nextToFall 3 = .ok (.iconst 0, 1) := by decide +kernel
theorem d_M_nextToFall_4 : decode b_M_nextToFall 4 = .ok (.istore_n 3, 1) := by decide +kernel
theorem d_M_nextToFall_5 : decode b_M_nextToFall 5 = .ok (.iload_n 3, 1) := by decide +kernel
theorem d_M_nextToFall_6 : decode b_M_nextToFall 6 = .ok (.aload_n 0, 1) := by decide +kernel
theorem d_M_nextToFall_7 : decode b_M_nextToFall 7 = .ok (.getfield 7, 3) := by decide +kernel
theorem d_M_nextToFall_10 : decode b_M_nextToFall 10 = .ok (.iload_n 1, 1) := by decide +kernel
theorem d_M_nextToFall_11 : decode b_M_nextToFall 11 = .ok (.iconst 0, 1) := by decide +kernel
theorem d_M_nextToFall_12 : decode b_M_nextToFall 12 = .ok (.iadd, 1) := by decide +kernel
theorem d_M_nextToFall_13 : decode b_M_nextToFall 13 = .ok (.iaload, 1) := by decide +kernel
theorem d_M_nextToFall_14 : decode b_M_nextToFall 14 = .ok (.if_icmp .ge 46, 3) := by decide +kernel
theorem d_M_nextToFall_17 : decode b_M_nextToFall 17 = .ok (.aload_n 0, 1) := by decide +kernel
theorem d_M_nextToFall_18 : decode b_M_nextToFall 18 = .ok (.getfield 7, 3) := by decide +kernel
theorem d_M_nextToFall_21 : decode b_M_nextToFall 21 = .ok (.iload_n 1, 1) := by decide +kernel
theorem d_M_nextToFall_22 : decode b_M_nextToFall 22 = .ok (.iconst 3, 1) := by decide +kernel
theorem d_M_nextToFall_23 : decode b_M_nextToFall 23 = .ok (.iadd, 1) := by decide +kernel
theorem d_M_nextToFall_24 : decode b_M_nextToFall 24 = .ok (.iaload, 1) := by decide +kernel
theorem d_M_nextToFall_25 : decode b_M_nextToFall 25 = .ok (.iload_n 3, 1) := by decide +kernel
theorem d_M_nextToFall_26 : decode b_M_nextToFall 26 = .ok (.invokestatic 138, 3) := by decide +kernel
theorem d_M_nextToFall_29 : decode b_M_nextToFall 29 = .ok (.ifCond .eq 23, 3) := by decide +kernel
theorem d_M_nextToFall_32 : decode b_M_nextToFall 32 = .ok (.iload_n 2, 1) := by decide +kernel
theorem d_M_nextToFall_33 : decode b_M_nextToFall 33 = .ok (.ldc 147, 2) := by decide +kernel
theorem d_M_nextToFall_35 : decode b_M_nextToFall 35 = .ok (.if_icmp .eq 13, 3) := by decide +kernel
theorem d_M_nextToFall_38 : decode b_M_nextToFall 38 = .ok (.aload_n 0, 1) := by decide +kernel
theorem d_M_nextToFall_39 : decode b_M_nextToFall 39 = .ok (.iload_n 1, 1) := by decide +kernel
theorem d_M_nextToFall_40 : decode b_M_nextToFall 40 = .ok (.iload_n 3, 1) := by decide +kernel
theorem d_M_nextToFall_41 : decode b_M_nextToFall 41 = .ok (.iload_n 2, 1) := by decide +kernel
theorem d_M_nextToFall_42 : decode b_M_nextToFall 42 = .ok (.invokevirtual 148, 3) := by decide +kernel
theorem d_M_nextToFall_45 : decode b_M_nextToFall 45 = .ok (.ifCond .eq 7, 3) := by decide +kernel
theorem d_M_nextToFall_48 : decode b_M_nextToFall 48 = .ok (.iload_n 3, 1) := by decide +kernel
theorem d_M_nextToFall_49 : decode b_M_nextToFall 49 = .ok (.goto 4, 3) := by decide +kernel
theorem d_M_nextToFall_52 : decode b_M_nextToFall 52 = .ok (.iload_n 2, 1) := by decide +kernel
theorem d_M_nextToFall_53 : decode b_M_nextToFall 53 = .ok (.istore_n 2, 1) := by decide +kernel
theorem d_M_nextToFall_54 : decode b_M_nextToFall 54 = .ok (.iinc 3 1, 3) := by decide +kernel
theorem d_M_nextToFall_57 : decode b_M_nextToFall 57 = .ok (.goto (-52), 3) := by decide +kernel
theorem d_M_nextToFall_60 : decode b_M_nextToFall 60 = .ok (.aload_n 0, 1) := by decide +kernel
theorem d_M_nextToFall_61 : decode b_M_nextToFall 61 = .ok (.iload_n 1, 1) := by decide +kernel
theorem d_M_nextToFall_62 : decode b_M_nextToFall 62 = .ok (.invokevirtual 151, 3) := by decide +kernel
theorem d_M_nextToFall_65 : decode b_M_nextToFall 65 = .ok (.aload_n 0, 1) := by decide +kernel
theorem d_M_nextToFall_66 : decode b_M_nextToFall 66 = .ok (.getfield 7, 3) := by decide +kernel
theorem d_M_nextToFall_69 : decode b_M_nextToFall 69 = .ok (.iload_n 1, 1) := by decide +kernel
theorem d_M_nextToFall_70 : decode b_M_nextToFall 70 = .ok (.iconst 1, 1) := by decide +kernel
theorem d_M_nextToFall_71 : decode b_M_nextToFall 71 = .ok (.iadd, 1) := by decide +kernel
theorem d_M_nextToFall_72 : decode b_M_nextToFall 72 = .ok (.iaload, 1) := by decide +kernel
theorem d_M_nextToFall_73 : decode b_M_nextToFall 73 = .ok (.if_icmp .le 7, 3) := by decide +kernel
theorem d_M_nextToFall_76 : decode b_M_nextToFall 76 = .ok (.iload_n 2, 1) := by decide +kernel
theorem d_M_nextToFall_77 : decode b_M_nextToFall 77 = .ok (.goto 5, 3) := by decide +kernel
theorem d_M_nextToFall_80 : decode b_M_nextToFall 80 = .ok (.ldc 147, 2) := by decide +kernel
theorem d_M_nextToFall_82 : decode b_M_nextToFall 82 = .ok (.ireturn, 1) := by decide +kernel
theorem d_M_noDays_0 : decode b_M_noDays 0 = .ok (.aload_n 0, 1) := by decide +kernel
theorem d_M_noDays_1 : decode b_M_noDays 1 = .ok (.getfield 130, 3) := by decide +kernel
theorem d_M_noDays_4 : decode b_M_noDays 4 = .ok (.ifCond .ne 6, 3) := by decide +kernel
theorem d_M_noDays_7 : decode b_M_noDays 7 = .ok (.ldc 137, 2) := by decide +kernel
theorem d_M_noDays_9 : decode b_M_noDays 9 = .ok (.ireturn, 1) := by decide +kernel
theorem d_M_noDays_10 : decode b_M_noDays 10 = .ok (.iload_n 1, 1) := by decide +kernel
theorem d_M_noDays_11 : decode b_M_noDays 11 = .ok (.i2l, 1) := by decide +kernel
theorem d_M_noDays_12 : decode b_M_noDays 12 = .ok (.lconst 0, 1) := by decide +kernel
theorem d_M_noDays_13 : decode b_M_noDays 13 = .ok (.ldc2_w 186, 3) := by decide +kernel
theorem d_M_noDays_16 : decode b_M_noDays 16 = .ok (.invokestatic 45, 3) := by decide +kernel
theorem d_M_noDays_19 : decode b_M_noDays 19 = .ok (.ifCond .ne 6, 3) := by decide +kernel
theorem d_M_noDays_22 : decode b_M_noDays 22 = .ok (.ldc 55, 2) := by decide +kernel
theorem d_M_noDays_24 : decode b_M_noDays 24 = .ok (.ireturn, 1) := by decide +kernel
theorem d_M_noDays_25 : decode b_M_noDays 25 = .ok (.aload_n 0, 1) := by decide +kernel
theorem d_M_noDays_26 : decode b_M_noDays 26 = .ok (.invokevirtual 188, 3) := by decide +kernel
theorem d_M_noDays_29 : decode b_M_noDays 29 = .ok (.aload_n 0, 1) := by decide +kernel
theorem d_M_noDays_30 : decode b_M_noDays 30 = .ok (.sipush 972, 3) := by decide +kernel
theorem d_M_noDays_33 : decode b_M_noDays 33 = .ok (.iload_n 1, 1) := by decide +kernel
theorem d_M_noDays_34 : decode b_M_noDays 34 = .ok (.invokevirtual 191, 3) := by decide +kernel
theorem d_M_noDays_37 : decode b_M_noDays 37 = .ok (.iconst 0, 1) := by decide +kernel
theorem d_M_noDays_38 : decode b_M_noDays 38 = .ok (.ireturn, 1) := by decide +kernel
theorem d_M_noItems_0 : decode b_M_noItems 0 = .ok (.aload_n 0, 1) := by decide +kernel
theorem d_M_noItems_1 : decode b_M_noItems 1 = .ok (.getfield 20, 3) := by decide +kernel
theorem d_M_noItems_4 : decode b_M_noItems 4 = .ok (.iload_n 1, 1) := by decide +kernel
theorem d_M_noItems_5 : decode b_M_noItems 5 = .ok (.iaload, 1) := by decide +kernel
theorem d_M_noItems_6 : decode b_M_noItems 6 = .ok (.ifCond .ge 11, 3) := by decide +kernel
theorem d_M_noItems_9 : decode b_M_noItems 9 = .ok (.aload_n 0, 1) := by decide +kernel
theorem d_M_noItems_10 : decode b_M_noItems 10 = .ok (.iconst 1, 1) := by decide +kernel
theorem d_M_noItems_11 : decode b_M_noItems 11 = .ok (.invokevirtual 56, 3) := by decide +kernel
theorem d_M_noItems_14 : decode b_M_noItems 14 = .ok (.goto 22, 3) := by decide +kernel
theorem d_M_noItems_17 : decode b_M_noItems 17 = .ok (.aload_n 0, 1) := by decide +kernel
theorem d_M_noItems_18 : decode b_M_noItems 18 = .ok (.iload_n 1, 1) := by decide +kernel
theorem d_M_noItems_19 : decode b_M_noItems 19 = .ok (.iload_n 2, 1) := by decide +kernel
theorem d_M_noItems_20 : decode b_M_noItems 20 = .ok (.iload_n 3, 1) := by decide +kernel
theorem d_M_noItems_21 : decode b_M_noItems 21 = .ok (.invokevirtual 67, 3) := by decide +kernel
theorem d_M_noItems_24 : decode b_M_noItems 24 = .ok (.ifCond .eq 7, 3) := by decide +kernel
theorem d_M_noItems_27 : decode b_M_noItems 27 = .ok (.iconst 0, 1) := by decide +kernel
theorem d_M_noItems_28 : decode b_M_noItems 28 = .ok (.goto 8, 3) := by decide +kernel
theorem d_M_noItems_31 : decode b_M_noItems 31 = .ok (.aload_n 0, 1) := by decide +kernel
theorem d_M_noItems_32 : decode b_M_noItems 32 = .ok (.iconst 2, 1) := by decide +kernel
theorem d_M_noItems_33 : decode b_M_noItems 33 = .ok (.invokevirtual 56, 3) := by decide +kernel
theorem d_M_noItems_36 : decode b_M_noItems 36 = .ok (.ireturn, 1) := by decide +kernel
theorem d_M_noteMark_0 : decode b_M_noteMark 0 = .ok (.aload_n 0, 1) := by decide +kernel
theorem d_M_noteMark_1 : decode b_M_noteMark 1 = .ok (.bipush 23, 2) := by decide +kernel
theorem d_M_noteMark_3 : decode b_M_noteMark 3 = .ok (.invokevirtual 250, 3) := by decide +kernel
theorem d_M_noteMark_6 : decode b_M_noteMark 6 = .ok (.aload_n 0, 1) := by decide +kernel
theorem d_M_noteMark_7 : decode b_M_noteMark 7 = .ok (.iload_n 1, 1) := by decide +kernel
theorem d_M_noteMark_8 : decode b_M_noteMark 8 = .ok (.invokevirtual 265, 3) := by decide +kernel
theorem d_M_noteMark_11 : decode b_M_noteMark 11 = .ok (.istore_n 2, 1) := by decide +kernel
theorem d_M_noteMark_12 : decode b_M_noteMark 12 = .ok (.iload_n 2, 1) := by decide +kernel
theorem d_M_noteMark_13 : decode b_M_noteMark 13 = .ok (.aload_n 0, 1) := by decide +kernel
theorem d_M_noteMark_14 : decode b_M_noteMark 14 = .ok (.iload_n 1, 1) := by decide +kernel
theorem d_M_noteMark_15 : decode b_M_noteMark 15 = .ok (.invokevirtual 271, 3) := by decide +kernel
theorem d_M_noteMark_18 : decode b_M_noteMark 18 = .ok (.isub, 1) := by decide +kernel
theorem d_M_noteMark_19 : decode b_M_noteMark 19 = .ok (.ireturn, 1) := by decide +kernel
theorem d_M_noteSize_0 : decode b_M_noteSize 0 = .ok (.aload_n 0, 1) := by decide +kernel
theorem d_M_noteSize_1 : decode b_M_noteSize 1 = .ok (.bipush 13, 2) := by decide +kernel
theorem d_M_noteSize_3 : decode b_M_noteSize 3 = .ok (.invokevirtual 250, 3) := by decide +kernel
theorem d_M_noteSize_6 : decode b_M_noteSize 6 = .ok (.aload_n 0, 1) := by decide +kernel
theorem d_M_noteSize_7 : decode b_M_noteSize 7 = .ok (.iload_n 1, 1) := by decide +kernel
theorem d_M_noteSize_8 : decode b_M_noteSize 8 = .ok (.invokevirtual 253, 3) := by decide +kernel
theorem d_M_noteSize_11 : decode b_M_noteSize 11 = .ok (.bipush 100, 2) := by decide +kernel
theorem d_M_noteSize_13 : decode b_M_noteSize 13 = .ok (.isub, 1) := by decide +kernel
theorem d_M_noteSize_14 : decode b_M_noteSize 14 = .ok (.ireturn, 1) := by decide +kernel
theorem d_M_order_0 : decode b_M_order 0 = .ok (.aload_n 0, 1) := by decide +kernel
theorem d_M_order_1 : decode b_M_order 1 = .ok (.getfield 130, 3) := by decide +kernel
theorem d_M_order_4 : decode b_M_order 4 = .ok (.ifCond .ne 6, 3) := by decide +kernel
theorem d_M_order_7 : decode b_M_order 7 = .ok (.ldc 137, 2) := by decide +kernel
theorem d_M_order_9 : decode b_M_order 9 = .ok (.ireturn, 1) := by decide +kernel
theorem d_M_order_10 : decode b_M_order 10 = .ok (.iload_n 1, 1) := by decide +kernel
theorem d_M_order_11 : decode b_M_order 11 = .ok (.ifCond .lt 30, 3) := by decide +kernel
theorem d_M_order_14 : decode b_M_order 14 = .ok (.iload_n 1, 1) := by decide +kernel
theorem d_M_order_15 : decode b_M_order 15 = .ok (.aload_n 0, 1) := by decide +kernel
theorem d_M_order_16 : decode b_M_order 16 = .ok (.getfield 7, 3) := by decide +kernel
theorem d_M_order_19 : decode b_M_order 19 = .ok (.iconst 3, 1) := by decide +kernel
theorem d_M_order_20 : decode b_M_order 20 = .ok (.iaload, 1) := by decide +kernel
theorem d_M_order_21 : decode b_M_order 21 = .ok (.iconst (-1), 1) := by decide +kernel
theorem d_M_order_22 : decode b_M_order 22 = .ok (.ixor, 1) := by decide +kernel
theorem d_M_order_23 : decode b_M_order 23 = .ok (.iand, 1) := by decide +kernel
theorem d_M_order_24 : decode b_M_order 24 = .ok (.ifCond .ne 17, 3) := by decide +kernel
theorem d_M_order_27 : decode b_M_order 27 = .ok (.iload_n 2, 1) := by decide +kernel
theorem d_M_order_28 : decode b_M_order 28 = .ok (.i2l, 1) := by decide +kernel
theorem d_M_order_29 : decode b_M_order 29 = .ok (.ldc2_w 200, 3) := by decide +kernel
theorem d_M_order_32 : decode b_M_order 32 = .ok (.ldc2_w 202, 3) := by decide +kernel
theorem d_M_order_35 : decode b_M_order 35 = .ok (.invokestatic 45, 3) := by decide +kernel
theorem d_M_order_38 : decode b_M_order 38 = .ok (.ifCond .ne 6, 3) := by decide +kernel
theorem d_M_order_41 : decode b_M_order 41 = .ok (.ldc 55, 2) := by decide +kernel
theorem d_M_order_43 : decode b_M_order 43 = .ok (.ireturn, 1) := by decide +kernel
theorem d_M_order_44 : decode b_M_order 44 = .ok (.iconst 0, 1) := by decide +kernel
theorem d_M_order_45 : decode b_M_order 45 = .ok (.istore_n 3, 1) := by decide +kernel
theorem d_M_order_46 : decode b_M_order 46 = .ok (.iconst 0, 1) := by decide +kernel
theorem d_M_order_47 : decode b_M_order 47 = .ok (.istore 4, 2) := by decide +kernel
theorem d_M_order_49 : decode b_M_order 49 = .ok (.iload 4, 2) := by decide +kernel
theorem d_M_order_51 : decode b_M_order 51 = .ok (.bipush 6, 2) := by decide +kernel
theorem d_M_order_53 : decode b_M_order 53 = .ok (.if_icmp .ge 29, 3) := by decide +kernel
theorem d_M_order_56 : decode b_M_order 56 = .ok (.iload_n 1, 1) := by decide +kernel
theorem d_M_order_57 : decode b_M_order 57 = .ok (.iload 4, 2) := by decide +kernel
theorem d_M_order_59 : decode b_M_order 59 = .ok (.invokestatic 138, 3) := by decide +kernel
theorem d_M_order_62 : decode b_M_order 62 = .ok (.ifCond .eq 14, 3) := by decide +kernel
theorem d_M_order_65 : decode b_M_order 65 = .ok (.aload_n 0, 1) := by decide +kernel
theorem d_M_order_66 : decode b_M_order 66 = .ok (.getfield 32, 3) := by decide +kernel
theorem d_M_order_69 : decode b_M_order 69 = .ok (.iload_n 3, 1) := by decide +kernel
theorem d_M_order_70 : decode b_M_order 70 = .ok (.iload 4, 2) := by decide +kernel
theorem d_M_order_72 : decode b_M_order 72 = .ok (.iastore, 1) := by decide +kernel
theorem d_M_order_73 : decode b_M_order 73 = .ok (.iinc 3 1, 3) := by decide +kernel
theorem d_M_order_76 : decode b_M_order 76 = .ok (.iinc 4 1, 3) := by decide +kernel
theorem d_M_order_79 : decode b_M_order 79 = .ok (.goto (-30), 3) := by decide +kernel
theorem d_M_order_82 : decode b_M_order 82 = .ok (.ldc 147, 2) := by decide +kernel
theorem d_M_order_84 : decode b_M_order 84 = .ok (.istore 4, 2) := by decide +kernel
theorem d_M_order_86 : decode b_M_order 86 = .ok (.iconst 1, 1) := by decide +kernel
theorem d_M_order_87 : decode b_M_order 87 = .ok (.istore 5, 2) := by decide +kernel
theorem d_M_order_89 : decode b_M_order 89 = .ok (.iload 5, 2) := by decide +kernel
theorem d_M_order_91 : decode b_M_order 91 = .ok (.ifCond .eq 67, 3) := by decide +kernel
theorem d_M_order_94 : decode b_M_order 94 = .ok (.aload_n 0, 1) := by decide +kernel
theorem d_M_order_95 : decode b_M_order 95 = .ok (.iload_n 3, 1) := by decide +kernel
theorem d_M_order_96 : decode b_M_order 96 = .ok (.invokevirtual 204, 3) := by decide +kernel
theorem d_M_order_99 : decode b_M_order 99 = .ok (.istore 6, 2) := by decide +kernel
theorem d_M_order_101 : decode b_M_order 101 = .ok (.iload 4, 2) := by decide +kernel
theorem d_M_order_103 : decode b_M_order 103 = .ok (.ldc 147, 2) := by decide +kernel
theorem d_M_order_105 : decode b_M_order 105 = .ok (.if_icmp .eq 10, 3) := by decide +kernel
theorem d_M_order_108 : decode b_M_order 108 = .ok (.iload 6, 2) := by decide +kernel
theorem d_M_order_110 : decode b_M_order 110 = .ok (.iload 4, 2) := by decide +kernel
theorem d_M_order_112 : decode b_M_order 112 = .ok (.if_icmp .ge 36, 3) := by decide +kernel
theorem d_M_order_115 : decode b_M_order 115 = .ok (.iload 6, 2) := by decide +kernel
theorem d_M_order_117 : decode b_M_order 117 = .ok (.istore 4, 2) := by decide +kernel
theorem d_M_order_119 : decode b_M_order 119 = .ok (.iconst 0, 1) := by decide +kernel
theorem d_M_order_120 : decode b_M_order 120 = .ok (.istore 7, 2) := by decide +kernel
theorem d_M_order_122 : decode b_M_order 122 = .ok (.iload 7, 2) := by decide +kernel
theorem d_M_order_124 : decode b_M_order 124 = .ok (.iload_n 3, 1) := by decide +kernel
theorem d_M_order_125 : decode b_M_order 125 = .ok (.if_icmp .ge 23, 3) := by decide +kernel
theorem d_M_order_128 : decode b_M_order 128 = .ok (.aload_n 0, 1) := by decide +kernel
theorem d_M_order_129 : decode b_M_order 129 = .ok (.getfield 35, 3) := by decide +kernel
theorem d_M_order_132 : decode b_M_order 132 = .ok (.iload 7, 2) := by decide +kernel
theorem d_M_order_134 : decode b_M_order 134 = .ok (.aload_n 0, 1) := by decide +kernel
theorem d_M_order_135 : decode b_M_order 135 = .ok (.getfield 32, 3) := by decide +kernel
theorem d_M_order_138 : decode b_M_order 138 = .ok (.iload 7, 2) := by decide +kernel
theorem d_M_order_140 : decode b_M_order 140 = .ok (.iaload, 1) := by decide +kernel
theorem d_M_order_141 : decode b_M_order 141 = .ok (.iastore, 1) := by decide +kernel
theorem d_M_order_142 : decode b_M_order 142 = .ok (.iinc 7 1, 3) := by decide +kernel
theorem d_M_order_145 : decode b_M_order 145 = .ok (.goto (-23), 3) := by decide +kernel
theorem d_M_order_148 : decode b_M_order 148 = .ok (.aload_n 0, 1) := by decide +kernel
theorem d_M_order_149 : decode b_M_order 149 = .ok (.iload_n 3, 1) := by decide +kernel
theorem d_M_order_150 : decode b_M_order 150 = .ok (.invokevirtual 207, 3) := by decide +kernel
theorem d_M_order_153 : decode b_M_order 153 = .ok (.istore 5, 2) := by decide +kernel
theorem d_M_order_155 : decode b_M_order 155 = .ok (.goto (-66), 3) := by decide +kernel
theorem d_M_order_158 : decode b_M_order 158 = .ok (.iload_n 2, 1) := by decide +kernel
theorem d_M_order_159 : decode b_M_order 159 = .ok (.ifCond .ge 8, 3) := by decide +kernel
theorem d_M_order_162 : decode b_M_order 162 = .ok (.iload 4, 2) := by decide +kernel
theorem d_M_order_164 : decode b_M_order 164 = .ok (.goto 19, 3) := by decide +kernel
theorem d_M_order_167 : decode b_M_order 167 = .ok (.iload_n 2, 1) := by decide +kernel
theorem d_M_order_168 : decode b_M_order 168 = .ok (.iload_n 3, 1) := by decide +kernel
theorem d_M_order_169 : decode b_M_order 169 = .ok (.if_icmp .ge 12, 3) := by decide +kernel
theorem d_M_order_172 : decode b_M_order 172 = .ok (.aload_n 0, 1) := by decide +kernel
theorem d_M_order_173 : decode b_M_order 173 = .ok (.getfield 35, 3) := by decide +kernel
theorem d_M_order_176 : decode b_M_order 176 = .ok (.iload_n 2, 1) := by decide +kernel
theorem d_M_order_177 : decode b_M_order 177 = .ok (.iaload, 1) := by decide +kernel
theorem d_M_order_178 : decode b_M_order 178 = .ok (.goto 5, 3) := by decide +kernel
theorem d_M_order_181 : decode b_M_order 181 = .ok (.ldc 147, 2) := by decide +kernel
theorem d_M_order_183 : decode b_M_order 183 = .ok (.ireturn, 1) := by decide +kernel
theorem d_M_pass_0 : decode b_M_pass 0 = .ok (.aload_n 0, 1) := by decide +kernel
theorem d_M_pass_1 : decode b_M_pass 1 = .ok (.getfield 7, 3) := by decide +kernel
theorem d_M_pass_4 : decode b_M_pass 4 = .ok (.iload_n 1, 1) := by decide +kernel
theorem d_M_pass_5 : decode b_M_pass 5 = .ok (.iconst 4, 1) := by decide +kernel
theorem d_M_pass_6 : decode b_M_pass 6 = .ok (.iadd, 1) := by decide +kernel
theorem d_M_pass_7 : decode b_M_pass 7 = .ok (.aload_n 0, 1) := by decide +kernel
theorem d_M_pass_8 : decode b_M_pass 8 = .ok (.getfield 7, 3) := by decide +kernel
theorem d_M_pass_11 : decode b_M_pass 11 = .ok (.iload_n 1, 1) := by decide +kernel
theorem d_M_pass_12 : decode b_M_pass 12 = .ok (.iconst 4, 1) := by decide +kernel
theorem d_M_pass_13 : decode b_M_pass 13 = .ok (.iadd, 1) := by decide +kernel
theorem d_M_pass_14 : decode b_M_pass 14 = .ok (.iaload, 1) := by decide +kernel
theorem d_M_pass_15 : decode b_M_pass 15 = .ok (.aload_n 0, 1) := by decide +kernel
theorem d_M_pass_16 : decode b_M_pass 16 = .ok (.iload_n 1, 1) := by decide +kernel
theorem d_M_pass_17 : decode b_M_pass 17 = .ok (.invokevirtual 157, 3) := by decide +kernel
theorem d_M_pass_20 : decode b_M_pass 20 = .ok (.iadd, 1) := by decide +kernel
theorem d_M_pass_21 : decode b_M_pass 21 = .ok (.sipush 9999, 3) := by decide +kernel
theorem d_M_pass_24 : decode b_M_pass 24 = .ok (.invokestatic 154, 3) := by decide +kernel
theorem d_M_pass_27 : decode b_M_pass 27 = .ok (.iastore, 1) := by decide +kernel
theorem d_M_pass_28 : decode b_M_pass 28 = .ok (.iconst 0, 1) := by decide +kernel
theorem d_M_pass_29 : decode b_M_pass 29 = .ok (.istore_n 2, 1) := by decide +kernel
theorem d_M_pass_30 : decode b_M_pass 30 = .ok (.iload_n 2, 1) := by decide +kernel
theorem d_M_pass_31 : decode b_M_pass 31 = .ok (.aload_n 0, 1) := by decide +kernel
theorem d_M_pass_32 : decode b_M_pass 32 = .ok (.getfield 7, 3) := by decide +kernel
theorem d_M_pass_35 : decode b_M_pass 35 = .ok (.iload_n 1, 1) := by decide +kernel
theorem d_M_pass_36 : decode b_M_pass 36 = .ok (.iconst 0, 1) := by decide +kernel
theorem d_M_pass_37 : decode b_M_pass 37 = .ok (.iadd, 1) := by decide +kernel
theorem d_M_pass_38 : decode b_M_pass 38 = .ok (.iaload, 1) := by decide +kernel
theorem d_M_pass_39 : decode b_M_pass 39 = .ok (.if_icmp .ge 49, 3) := by decide +kernel
theorem d_M_pass_42 : decode b_M_pass 42 = .ok (.aload_n 0, 1) := by decide +kernel
theorem d_M_pass_43 : decode b_M_pass 43 = .ok (.getfield 7, 3) := by decide +kernel
theorem d_M_pass_46 : decode b_M_pass 46 = .ok (.iload_n 1, 1) := by decide +kernel
theorem d_M_pass_47 : decode b_M_pass 47 = .ok (.bipush 30, 2) := by decide +kernel
theorem d_M_pass_49 : decode b_M_pass 49 = .ok (.iadd, 1) := by decide +kernel
theorem d_M_pass_50 : decode b_M_pass 50 = .ok (.iload_n 2, 1) := by decide +kernel
theorem d_M_pass_51 : decode b_M_pass 51 = .ok (.iadd, 1) := by decide +kernel
theorem d_M_pass_52 : decode b_M_pass 52 = .ok (.aload_n 0, 1) := by decide +kernel
theorem d_M_pass_53 : decode b_M_pass 53 = .ok (.getfield 7, 3) := by decide +kernel
theorem d_M_pass_56 : decode b_M_pass 56 = .ok (.iload_n 1, 1) := by decide +kernel
theorem d_M_pass_57 : decode b_M_pass 57 = .ok (.bipush 30, 2) := by decide +kernel
theorem d_M_pass_59 : decode b_M_pass 59 = .ok (.iadd, 1) := by decide +kernel
theorem d_M_pass_60 : decode b_M_pass 60 = .ok (.iload_n 2, 1) := by decide +kernel
theorem d_M_pass_61 : decode b_M_pass 61 = .ok (.iadd, 1) := by decide +kernel
theorem d_M_pass_62 : decode b_M_pass 62 = .ok (.iaload, 1) := by decide +kernel
theorem d_M_pass_63 : decode b_M_pass 63 = .ok (.aload_n 0, 1) := by decide +kernel
theorem d_M_pass_64 : decode b_M_pass 64 = .ok (.getfield 7, 3) := by decide +kernel
theorem d_M_pass_67 : decode b_M_pass 67 = .ok (.iload_n 1, 1) := by decide +kernel
theorem d_M_pass_68 : decode b_M_pass 68 = .ok (.iconst 3, 1) := by decide +kernel
theorem d_M_pass_69 : decode b_M_pass 69 = .ok (.iadd, 1) := by decide +kernel
theorem d_M_pass_70 : decode b_M_pass 70 = .ok (.iaload, 1) := by decide +kernel
theorem d_M_pass_71 : decode b_M_pass 71 = .ok (.iload_n 2, 1) := by decide +kernel
theorem d_M_pass_72 : decode b_M_pass 72 = .ok (.ishr, 1) := by decide +kernel
theorem d_M_pass_73 : decode b_M_pass 73 = .ok (.iconst 1, 1) := by decide +kernel
theorem d_M_pass_74 : decode b_M_pass 74 = .ok (.iand, 1) := by decide +kernel
theorem d_M_pass_75 : decode b_M_pass 75 = .ok (.iadd, 1) := by decide +kernel
theorem d_M_pass_76 : decode b_M_pass 76 = .ok (.bipush 99, 2) := by decide +kernel
theorem d_M_pass_78 : decode b_M_pass 78 = .ok (.invokestatic 154, 3) := by decide +kernel
theorem d_M_pass_81 : decode b_M_pass 81 = .ok (.iastore, 1) := by decide +kernel
theorem d_M_pass_82 : decode b_M_pass 82 = .ok (.iinc 2 1, 3) := by decide +kernel
theorem d_M_pass_85 : decode b_M_pass 85 = .ok (.goto (-55), 3) := by decide +kernel
theorem d_M_pass_88 : decode b_M_pass 88 = .ok (.aload_n 0, 1) := by decide +kernel
theorem d_M_pass_89 : decode b_M_pass 89 = .ok (.getfield 7, 3) := by decide +kernel
theorem d_M_pass_92 : decode b_M_pass 92 = .ok (.iload_n 1, 1) := by decide +kernel
theorem d_M_pass_93 : decode b_M_pass 93 = .ok (.iconst 2, 1) := by decide +kernel
theorem d_M_pass_94 : decode b_M_pass 94 = .ok (.iadd, 1) := by decide +kernel
theorem d_M_pass_95 : decode b_M_pass 95 = .ok (.dup2, 1) := by decide +kernel
theorem d_M_pass_96 : decode b_M_pass 96 = .ok (.iaload, 1) := by decide +kernel
theorem d_M_pass_97 : decode b_M_pass 97 = .ok (.iconst 1, 1) := by decide +kernel
theorem d_M_pass_98 : decode b_M_pass 98 = .ok (.iadd, 1) := by decide +kernel
theorem d_M_pass_99 : decode b_M_pass 99 = .ok (.iastore, 1) := by decide +kernel
theorem d_M_pass_100 : decode b_M_pass 100 = .ok (.aload_n 0, 1) := by decide +kernel
theorem d_M_pass_101 : decode b_M_pass 101 = .ok (.iload_n 1, 1) := by decide +kernel
theorem d_M_pass_102 : decode b_M_pass 102 = .ok (.invokevirtual 160, 3) := by decide +kernel
theorem d_M_pass_105 : decode b_M_pass 105 = .ok (.istore_n 2, 1) := by decide +kernel
theorem d_M_pass_106 : decode b_M_pass 106 = .ok (.iload_n 2, 1) := by decide +kernel
theorem d_M_pass_107 : decode b_M_pass 107 = .ok (.istore_n 3, 1) := by decide +kernel
theorem d_M_pass_108 : decode b_M_pass 108 = .ok (.iload_n 3, 1) := by decide +kernel
theorem d_M_pass_109 : decode b_M_pass 109 = .ok (.ldc 147, 2) := by decide +kernel
theorem d_M_pass_111 : decode b_M_pass 111 = .ok (.if_icmp .eq 29, 3) := by decide +kernel
theorem d_M_pass_114 : decode b_M_pass 114 = .ok (.aload_n 0, 1) := by decide +kernel
theorem d_M_pass_115 : decode b_M_pass 115 = .ok (.iload_n 1, 1) := by decide +kernel
theorem d_M_pass_116 : decode b_M_pass 116 = .ok (.iload_n 3, 1) := by decide +kernel
theorem d_M_pass_117 : decode b_M_pass 117 = .ok (.aload_n 0, 1) := by decide +kernel
theorem d_M_pass_118 : decode b_M_pass 118 = .ok (.getfield 7, 3) := by decide +kernel
theorem d_M_pass_121 : decode b_M_pass 121 = .ok (.iload_n 1, 1) := by decide +kernel
theorem d_M_pass_122 : decode b_M_pass 122 = .ok (.bipush 24, 2) := by decide +kernel
theorem d_M_pass_124 : decode b_M_pass 124 = .ok (.iadd, 1) := by decide +kernel
theorem d_M_pass_125 : decode b_M_pass 125 = .ok (.iload_n 3, 1) := by decide +kernel
theorem d_M_pass_126 : decode b_M_pass 126 = .ok (.iadd, 1) := by decide +kernel
theorem d_M_pass_127 : decode b_M_pass 127 = .ok (.iaload, 1) := by decide +kernel
theorem d_M_pass_128 : decode b_M_pass 128 = .ok (.invokevirtual 163, 3) := by decide +kernel
theorem d_M_pass_131 : decode b_M_pass 131 = .ok (.aload_n 0, 1) := by decide +kernel
theorem d_M_pass_132 : decode b_M_pass 132 = .ok (.iload_n 1, 1) := by decide +kernel
theorem d_M_pass_133 : decode b_M_pass 133 = .ok (.invokevirtual 160, 3) := by decide +kernel
theorem d_M_pass_136 : decode b_M_pass 136 = .ok (.istore_n 3, 1) := by decide +kernel
theorem d_M_pass_137 : decode b_M_pass 137 = .ok (.goto (-29), 3) := by decide +kernel
theorem d_M_pass_140 : decode b_M_pass 140 = .ok (.iload_n 2, 1) := by decide +kernel
theorem d_M_pass_141 : decode b_M_pass 141 = .ok (.ireturn, 1) := by decide +kernel
theorem d_M_passes_0 : decode b_M_passes 0 = .ok (.iconst 0, 1) := by decide +kernel
theorem d_M_passes_1 : decode b_M_passes 1 = .ok (.istore_n 3, 1) := by decide +kernel
theorem d_M_passes_2 : decode b_M_passes 2 = .ok (.iload_n 3, 1) := by decide +kernel
theorem d_M_passes_3 : decode b_M_passes 3 = .ok (.iload_n 2, 1) := by decide +kernel
theorem d_M_passes_4 : decode b_M_passes 4 = .ok (.if_icmp .ge 15, 3) := by decide +kernel
theorem d_M_passes_7 : decode b_M_passes 7 = .ok (.aload_n 0, 1) := by decide +kernel
theorem d_M_passes_8 : decode b_M_passes 8 = .ok (.iload_n 1, 1) := by decide +kernel
theorem d_M_passes_9 : decode b_M_passes 9 = .ok (.invokevirtual 167, 3) := by decide +kernel
theorem d_M_passes_12 : decode b_M_passes 12 = .ok (.pop, 1) := by decide +kernel
theorem d_M_passes_13 : decode b_M_passes 13 = .ok (.iinc 3 1, 3) := by decide +kernel
theorem d_M_passes_16 : decode b_M_passes 16 = .ok (.goto (-14), 3) := by decide +kernel
theorem d_M_passes_19 : decode b_M_passes 19 = .ok (.return_, 1) := by decide +kernel
theorem d_M_post_0 : decode b_M_post 0 = .ok (.aload_n 0, 1) := by decide +kernel
theorem d_M_post_1 : decode b_M_post 1 = .ok (.iload_n 1, 1) := by decide +kernel
theorem d_M_post_2 : decode b_M_post 2 = .ok (.invokevirtual 175, 3) := by decide +kernel
theorem d_M_post_5 : decode b_M_post 5 = .ok (.ifCond .ne 6, 3) := by decide +kernel
theorem d_M_post_8 : decode b_M_post 8 = .ok (.ldc 55, 2) := by decide +kernel
theorem d_M_post_10 : decode b_M_post 10 = .ok (.ireturn, 1) := by decide +kernel
theorem d_M_post_11 : decode b_M_post 11 = .ok (.aload_n 0, 1) := by decide +kernel
theorem d_M_post_12 : decode b_M_post 12 = .ok (.getfield 7, 3) := by decide +kernel
theorem d_M_post_15 : decode b_M_post 15 = .ok (.iconst 3, 1) := by decide +kernel
theorem d_M_post_16 : decode b_M_post 16 = .ok (.iaload, 1) := by decide +kernel
theorem d_M_post_17 : decode b_M_post 17 = .ok (.iload_n 1, 1) := by decide +kernel
theorem d_M_post_18 : decode b_M_post 18 = .ok (.invokestatic 138, 3) := by decide +kernel
theorem d_M_post_21 : decode b_M_post 21 = .ok (.ifCond .eq 6, 3) := by decide +kernel
theorem d_M_post_24 : decode b_M_post 24 = .ok (.ldc 137, 2) := by decide +kernel
theorem d_M_post_26 : decode b_M_post 26 = .ok (.ireturn, 1) := by decide +kernel
theorem d_M_post_27 : decode b_M_post 27 = .ok (.aload_n 0, 1) := by decide +kernel
theorem d_M_post_28 : decode b_M_post 28 = .ok (.invokevirtual 172, 3) := by decide +kernel
theorem d_M_post_31 : decode b_M_post 31 = .ok (.aload_n 0, 1) := by decide +kernel
theorem d_M_post_32 : decode b_M_post 32 = .ok (.iconst 0, 1) := by decide +kernel
theorem d_M_post_33 : decode b_M_post 33 = .ok (.iload_n 1, 1) := by decide +kernel
theorem d_M_post_34 : decode b_M_post 34 = .ok (.invokevirtual 181, 3) := by decide +kernel
theorem d_M_post_37 : decode b_M_post 37 = .ok (.aload_n 0, 1) := by decide +kernel
theorem d_M_post_38 : decode b_M_post 38 = .ok (.iconst 0, 1) := by decide +kernel
theorem d_M_post_39 : decode b_M_post 39 = .ok (.invokevirtual 151, 3) := by decide +kernel
theorem d_M_post_42 : decode b_M_post 42 = .ok (.ireturn, 1) := by decide +kernel
theorem d_M_posts_0 : decode b_M_posts 0 = .ok (.aload_n 0, 1) := by decide +kernel
theorem d_M_posts_1 : decode b_M_posts 1 = .ok (.getfield 7, 3) := by decide +kernel
theorem d_M_posts_4 : decode b_M_posts 4 = .ok (.iload_n 1, 1) := by decide +kernel
theorem d_M_posts_5 : decode b_M_posts 5 = .ok (.iconst 3, 1) := by decide +kernel
theorem d_M_posts_6 : decode b_M_posts 6 = .ok (.iadd, 1) := by decide +kernel
theorem d_M_posts_7 : decode b_M_posts 7 = .ok (.dup2, 1) := by decide +kernel
theorem d_M_posts_8 : decode b_M_posts 8 = .ok (.iaload, 1) := by decide +kernel
theorem d_M_posts_9 : decode b_M_posts 9 = .ok (.iconst 1, 1) := by decide +kernel
theorem d_M_posts_10 : decode b_M_posts 10 = .ok (.iload_n 2, 1) := by decide +kernel
theorem d_M_posts_11 : decode b_M_posts 11 = .ok (.ishl, 1) := by decide +kernel
theorem d_M_posts_12 : decode b_M_posts 12 = .ok (.ior, 1) := by decide +kernel
theorem d_M_posts_13 : decode b_M_posts 13 = .ok (.iastore, 1) := by decide +kernel
theorem d_M_posts_14 : decode b_M_posts 14 = .ok (.aload_n 0, 1) := by decide +kernel
theorem d_M_posts_15 : decode b_M_posts 15 = .ok (.getfield 7, 3) := by decide +kernel
theorem d_M_posts_18 : decode b_M_posts 18 = .ok (.iload_n 1, 1) := by decide +kernel
theorem d_M_posts_19 : decode b_M_posts 19 = .ok (.bipush 30, 2) := by decide +kernel
theorem d_M_posts_21 : decode b_M_posts 21 = .ok (.iadd, 1) := by decide +kernel
theorem d_M_posts_22 : decode b_M_posts 22 = .ok (.iload_n 2, 1) := by decide +kernel
theorem d_M_posts_23 : decode b_M_posts 23 = .ok (.iadd, 1) := by decide +kernel
theorem d_M_posts_24 : decode b_M_posts 24 = .ok (.iconst 0, 1) := by decide +kernel
theorem d_M_posts_25 : decode b_M_posts 25 = .ok (.iastore, 1) := by decide +kernel
theorem d_M_posts_26 : decode b_M_posts 26 = .ok (.return_, 1) := by decide +kernel
theorem d_M_reads_0 : decode b_M_reads 0 = .ok (.iconst 0, 1) := by decide +kernel
theorem d_M_reads_1 : decode b_M_reads 1 = .ok (.istore_n 1, 1) := by decide +kernel
theorem d_M_reads_2 : decode b_M_reads 2 = .ok (.iload_n 1, 1) := by decide +kernel
theorem d_M_reads_3 : decode b_M_reads 3 = .ok (.bipush 36, 2) := by decide +kernel
theorem d_M_reads_5 : decode b_M_reads 5 = .ok (.if_icmp .ge 20, 3) := by decide +kernel
theorem d_M_reads_8 : decode b_M_reads 8 = .ok (.aload_n 0, 1) := by decide +kernel
theorem d_M_reads_9 : decode b_M_reads 9 = .ok (.getfield 7, 3) := by decide +kernel
theorem d_M_reads_12 : decode b_M_reads 12 = .ok (.sipush 972, 3) := by decide +kernel
theorem d_M_reads_15 : decode b_M_reads 15 = .ok (.iload_n 1, 1) := by decide +kernel
theorem d_M_reads_16 : decode b_M_reads 16 = .ok (.iadd, 1) := by decide +kernel
theorem d_M_reads_17 : decode b_M_reads 17 = .ok (.iconst 0, 1) := by decide +kernel
theorem d_M_reads_18 : decode b_M_reads 18 = .ok (.iastore, 1) := by decide +kernel
theorem d_M_reads_19 : decode b_M_reads 19 = .ok (.iinc 1 1, 3) := by decide +kernel
theorem d_M_reads_22 : decode b_M_reads 22 = .ok (.goto (-20), 3) := by decide +kernel
theorem d_M_reads_25 : decode b_M_reads 25 = .ok (.aload_n 0, 1) := by decide +kernel
theorem d_M_reads_26 : decode b_M_reads 26 = .ok (.iconst 0, 1) := by decide +kernel
theorem d_M_reads_27 : decode b_M_reads 27 = .ok (.putfield 77, 3) := by decide +kernel
theorem d_M_reads_30 : decode b_M_reads 30 = .ok (.aload_n 0, 1) := by decide +kernel
theorem d_M_reads_31 : decode b_M_reads 31 = .ok (.invokevirtual 109, 3) := by decide +kernel
theorem d_M_reads_34 : decode b_M_reads 34 = .ok (.istore_n 1, 1) := by decide +kernel
theorem d_M_reads_35 : decode b_M_reads 35 = .ok (.iload_n 1, 1) := by decide +kernel
theorem d_M_reads_36 : decode b_M_reads 36 = .ok (.ifCond .eq 18, 3) := by decide +kernel
theorem d_M_reads_39 : decode b_M_reads 39 = .ok (.aload_n 0, 1) := by decide +kernel
theorem d_M_reads_40 : decode b_M_reads 40 = .ok (.invokevirtual 113, 3) := by decide +kernel
theorem d_M_reads_43 : decode b_M_reads 43 = .ok (.ifCond .eq 11, 3) := by decide +kernel
theorem d_M_reads_46 : decode b_M_reads 46 = .ok (.aload_n 0, 1) := by decide +kernel
theorem d_M_reads_47 : decode b_M_reads 47 = .ok (.invokevirtual 116, 3) := by decide +kernel
theorem d_M_reads_50 : decode b_M_reads 50 = .ok (.istore_n 1, 1) := by decide +kernel
theorem d_M_reads_51 : decode b_M_reads 51 = .ok (.goto (-16), 3) := by decide +kernel
theorem d_M_reads_54 : decode b_M_reads 54 = .ok (.iload_n 1, 1) := by decide +kernel
theorem d_M_reads_55 : decode b_M_reads 55 = .ok (.ifCond .eq 26, 3) := by decide +kernel
theorem d_M_reads_58 : decode b_M_reads 58 = .ok (.aload_n 0, 1) := by decide +kernel
theorem d_M_reads_59 : decode b_M_reads 59 = .ok (.getfield 77, 3) := by decide +kernel
theorem d_M_reads_62 : decode b_M_reads 62 = .ok (.aload_n 0, 1) := by decide +kernel
theorem d_M_reads_63 : decode b_M_reads 63 = .ok (.getfield 73, 3) := by decide +kernel
theorem d_M_reads_66 : decode b_M_reads 66 = .ok (.if_icmp .eq 11, 3) := by decide +kernel
theorem d_M_reads_69 : decode b_M_reads 69 = .ok (.aload_n 0, 1) := by decide +kernel
theorem d_M_reads_70 : decode b_M_reads 70 = .ok (.iconst 1, 1) := by decide +kernel
theorem d_M_reads_71 : decode b_M_reads 71 = .ok (.invokevirtual 90, 3) := by decide +kernel
theorem d_M_reads_74 : decode b_M_reads 74 = .ok (.ifCond .eq 7, 3) := by decide +kernel
theorem d_M_reads_77 : decode b_M_reads 77 = .ok (.iconst 1, 1) := by decide +kernel
theorem d_M_reads_78 : decode b_M_reads 78 = .ok (.goto 4, 3) := by decide +kernel
theorem d_M_reads_81 : decode b_M_reads 81 = .ok (.iconst 0, 1) := by decide +kernel
theorem d_M_reads_82 : decode b_M_reads 82 = .ok (.ireturn, 1) := by decide +kernel
theorem d_M_readsLaw_0 : decode b_M_readsLaw 0 = .ok (.aload_n 0, 1) := by decide +kernel
theorem d_M_readsLaw_1 : decode b_M_readsLaw 1 = .ok (.bipush 99, 2) := by decide +kernel
theorem d_M_readsLaw_3 : decode b_M_readsLaw 3 = .ok (.invokevirtual 99, 3) := by decide +kernel
theorem d_M_readsLaw_6 : decode b_M_readsLaw 6 = .ok (.ifCond .eq 13, 3) := by decide +kernel
theorem d_M_readsLaw_9 : decode b_M_readsLaw 9 = .ok (.aload_n 0, 1) := by decide +kernel
theorem d_M_readsLaw_10 : decode b_M_readsLaw 10 = .ok (.iconst 1, 1) := by decide +kernel
theorem d_M_readsLaw_11 : decode b_M_readsLaw 11 = .ok (.bipush 30, 2) := by decide +kernel
theorem d_M_readsLaw_13 : decode b_M_readsLaw 13 = .ok (.invokevirtual 102, 3) := by decide +kernel
theorem d_M_readsLaw_16 : decode b_M_readsLaw 16 = .ok (.ifCond .ne 5, 3) := by decide +kernel
theorem d_M_readsLaw_19 : decode b_M_readsLaw 19 = .ok (.iconst 0, 1) := by decide +kernel
theorem d_M_readsLaw_20 : decode b_M_readsLaw 20 = .ok (.ireturn, 1) := by decide +kernel
theorem d_M_readsLaw_21 : decode b_M_readsLaw 21 = .ok (.aload_n 0, 1) := by decide +kernel
theorem d_M_readsLaw_22 : decode b_M_readsLaw 22 = .ok (.getfield 7, 3) := by decide +kernel
theorem d_M_readsLaw_25 : decode b_M_readsLaw 25 = .ok (.sipush 973, 3) := by decide +kernel
theorem d_M_readsLaw_28 : decode b_M_readsLaw 28 = .ok (.aload_n 0, 1) := by decide +kernel
theorem d_M_readsLaw_29 : decode b_M_readsLaw 29 = .ok (.getfield 96, 3) := by decide +kernel
theorem d_M_readsLaw_32 : decode b_M_readsLaw 32 = .ok (.iastore, 1) := by decide +kernel
theorem d_M_readsLaw_33 : decode b_M_readsLaw 33 = .ok (.aload_n 0, 1) := by decide +kernel
theorem d_M_readsLaw_34 : decode b_M_readsLaw 34 = .ok (.bipush 59, 2) := by decide +kernel
theorem d_M_readsLaw_36 : decode b_M_readsLaw 36 = .ok (.invokevirtual 99, 3) := by decide +kernel
theorem d_M_readsLaw_39 : decode b_M_readsLaw 39 = .ok (.ireturn, 1) := by decide +kernel
theorem d_M_readsLetter_0 : decode b_M_readsLetter 0 = .ok (.aload_n 0, 1) := by decide +kernel
theorem d_M_readsLetter_1 : decode b_M_readsLetter 1 = .ok (.getfield 7, 3) := by decide +kernel
theorem d_M_readsLetter_4 : decode b_M_readsLetter 4 = .ok (.sipush 972, 3) := by decide +kernel
theorem d_M_readsLetter_7 : decode b_M_readsLetter 7 = .ok (.iaload, 1) := by decide +kernel
theorem d_M_readsLetter_8 : decode b_M_readsLetter 8 = .ok (.istore_n 1, 1) := by decide +kernel
theorem d_M_readsLetter_9 : decode b_M_readsLetter 9 = .ok (.iload_n 1, 1) := by decide +kernel
theorem d_M_readsLetter_10 : decode b_M_readsLetter 10 = .ok (.bipush 6, 2) := by decide +kernel
theorem d_M_readsLetter_12 : decode b_M_readsLetter 12 = .ok (.if_icmp .ne 9, 3) := by decide +kernel
theorem d_M_readsLetter_15 : decode b_M_readsLetter 15 = .ok (.aload_n 0, 1) := by decide +kernel
theorem d_M_readsLetter_16 : decode b_M_readsLetter 16 = .ok (.iconst 3, 1) := by decide +kernel
theorem d_M_readsLetter_17 : decode b_M_readsLetter 17 = .ok (.invokevirtual 90, 3) := by decide +kernel
theorem d_M_readsLetter_20 : decode b_M_readsLetter 20 = .ok (.ireturn, 1) := by decide +kernel
theorem d_M_readsLetter_21 : decode b_M_readsLetter 21 = .ok (.aload_n 0, 1) := by decide +kernel
theorem d_M_readsLetter_22 : decode b_M_readsLetter 22 = .ok (.getfield 7, 3) := by decide +kernel
theorem d_M_readsLetter_25 : decode b_M_readsLetter 25 = .ok (.sipush 978, 3) := by decide +kernel
theorem d_M_readsLetter_28 : decode b_M_readsLetter 28 = .ok (.iload_n 1, 1) := by decide +kernel
theorem d_M_readsLetter_29 : decode b_M_readsLetter 29 = .ok (.iadd, 1) := by decide +kernel
theorem d_M_readsLetter_30 : decode b_M_readsLetter 30 = .ok (.aload_n 0, 1) := by decide +kernel
theorem d_M_readsLetter_31 : decode b_M_readsLetter 31 = .ok (.getfield 26, 3) := by decide +kernel
theorem d_M_readsLetter_34 : decode b_M_readsLetter 34 = .ok (.aload_n 0, 1) := by decide +kernel
theorem d_M_readsLetter_35 : decode b_M_readsLetter 35 = .ok (.getfield 77, 3) := by decide +kernel
theorem d_M_readsLetter_38 : decode b_M_readsLetter 38 = .ok (.iaload, 1) := by decide +kernel
theorem d_M_readsLetter_39 : decode b_M_readsLetter 39 = .ok (.invokestatic 106, 3) := by decide +kernel
theorem d_M_readsLetter_42 : decode b_M_readsLetter 42 = .ok (.iastore, 1) := by decide +kernel
theorem d_M_readsLetter_43 : decode b_M_readsLetter 43 = .ok (.aload_n 0, 1) := by decide +kernel
theorem d_M_readsLetter_44 : decode b_M_readsLetter 44 = .ok (.dup, 1) := by decide +kernel
theorem d_M_readsLetter_45 : decode b_M_readsLetter 45 = .ok (.getfield 77, 3) := by decide +kernel
theorem d_M_readsLetter_48 : decode b_M_readsLetter 48 = .ok (.iconst 1, 1) := by decide +kernel
theorem d_M_readsLetter_49 : decode b_M_readsLetter 49 = .ok (.iadd, 1) := by decide +kernel
theorem d_M_readsLetter_50 : decode b_M_readsLetter 50 = .ok (.putfield 77, 3) := by decide +kernel
theorem d_M_readsLetter_53 : decode b_M_readsLetter 53 = .ok (.aload_n 0, 1) := by decide +kernel
theorem d_M_readsLetter_54 : decode b_M_readsLetter 54 = .ok (.iconst 0, 1) := by decide +kernel
theorem d_M_readsLetter_55 : decode b_M_readsLetter 55 = .ok (.bipush 9, 2) := by decide +kernel
theorem d_M_readsLetter_57 : decode b_M_readsLetter 57 = .ok (.invokevirtual 102, 3) := by decide +kernel
theorem d_M_readsLetter_60 : decode b_M_readsLetter 60 = .ok (.ifCond .ne 5, 3) := by decide +kernel
theorem d_M_readsLetter_63 : decode b_M_readsLetter 63 = .ok (.iconst 0, 1) := by decide +kernel
theorem d_M_readsLetter_64 : decode b_M_readsLetter 64 = .ok (.ireturn, 1) := by decide +kernel
theorem d_M_readsLetter_65 : decode b_M_readsLetter 65 = .ok (.aload_n 0, 1) := by decide +kernel
theorem d_M_readsLetter_66 : decode b_M_readsLetter 66 = .ok (.getfield 7, 3) := by decide +kernel
theorem d_M_readsLetter_69 : decode b_M_readsLetter 69 = .ok (.sipush 984, 3) := by decide +kernel
theorem d_M_readsLetter_72 : decode b_M_readsLetter 72 = .ok (.iload_n 1, 1) := by decide +kernel
theorem d_M_readsLetter_73 : decode b_M_readsLetter 73 = .ok (.iadd, 1) := by decide +kernel
theorem d_M_readsLetter_74 : decode b_M_readsLetter 74 = .ok (.aload_n 0, 1) := by decide +kernel
theorem d_M_readsLetter_75 : decode b_M_readsLetter 75 = .ok (.getfield 96, 3) := by decide +kernel
theorem d_M_readsLetter_78 : decode b_M_readsLetter 78 = .ok (.iastore, 1) := by decide +kernel
theorem d_M_readsLetter_79 : decode b_M_readsLetter 79 = .ok (.aload_n 0, 1) := by decide +kernel
theorem d_M_readsLetter_80 : decode b_M_readsLetter 80 = .ok (.bipush 44, 2) := by decide +kernel
theorem d_M_readsLetter_82 : decode b_M_readsLetter 82 = .ok (.invokevirtual 99, 3) := by decide +kernel
theorem d_M_readsLetter_85 : decode b_M_readsLetter 85 = .ok (.ifCond .eq 13, 3) := by decide +kernel
theorem d_M_readsLetter_88 : decode b_M_readsLetter 88 = .ok (.aload_n 0, 1) := by decide +kernel
theorem d_M_readsLetter_89 : decode b_M_readsLetter 89 = .ok (.iconst 1, 1) := by decide +kernel
theorem d_M_readsLetter_90 : decode b_M_readsLetter 90 = .ok (.bipush 9, 2) := by decide +kernel
theorem d_M_readsLetter_92 : decode b_M_readsLetter 92 = .ok (.invokevirtual 102, 3) := by decide +kernel
theorem d_M_readsLetter_95 : decode b_M_readsLetter 95 = .ok (.ifCond .ne 5, 3) := by decide +kernel
theorem d_M_readsLetter_98 : decode b_M_readsLetter 98 = .ok (.iconst 0, 1) := by decide +kernel
theorem d_M_readsLetter_99 : decode b_M_readsLetter 99 = .ok (.ireturn, 1) := by decide +kernel
theorem d_M_readsLetter_100 : decode b_M_readsLetter 100 = .ok (.aload_n 0, 1) := by decide +kernel
theorem d_M_readsLetter_101 : decode b_M_readsLetter 101 = .ok (.getfield 7, 3) := by decide +kernel
theorem d_M_readsLetter_104 : decode b_M_readsLetter 104 = .ok (.sipush 990, 3) := by decide +kernel
theorem d_M_readsLetter_107 : decode b_M_readsLetter 107 = .ok (.iload_n 1, 1) := by decide +kernel
theorem d_M_readsLetter_108 : decode b_M_readsLetter 108 = .ok (.iadd, 1) := by decide +kernel
theorem d_M_readsLetter_109 : decode b_M_readsLetter 109 = .ok (.aload_n 0, 1) := by decide +kernel
theorem d_M_readsLetter_110 : decode b_M_readsLetter 110 = .ok (.getfield 96, 3) := by decide +kernel
theorem d_M_readsLetter_113 : decode b_M_readsLetter 113 = .ok (.iastore, 1) := by decide +kernel
theorem d_M_readsLetter_114 : decode b_M_readsLetter 114 = .ok (.aload_n 0, 1) := by decide +kernel
theorem d_M_readsLetter_115 : decode b_M_readsLetter 115 = .ok (.bipush 44, 2) := by decide +kernel
theorem d_M_readsLetter_117 : decode b_M_readsLetter 117 = .ok (.invokevirtual 99, 3) := by decide +kernel
theorem d_M_readsLetter_120 : decode b_M_readsLetter 120 = .ok (.ifCond .eq 13, 3) := by decide +kernel
theorem d_M_readsLetter_123 : decode b_M_readsLetter 123 = .ok (.aload_n 0, 1) := by decide +kernel
theorem d_M_readsLetter_124 : decode b_M_readsLetter 124 = .ok (.iconst 0, 1) := by decide +kernel
theorem d_M_readsLetter_125 : decode b_M_readsLetter 125 = .ok (.bipush 9, 2) := by decide +kernel
theorem d_M_readsLetter_127 : decode b_M_readsLetter 127 = .ok (.invokevirtual 102, 3) := by decide +kernel
theorem d_M_readsLetter_130 : decode b_M_readsLetter 130 = .ok (.ifCond .ne 5, 3) := by decide +kernel
theorem d_M_readsLetter_133 : decode b_M_readsLetter 133 = .ok (.iconst 0, 1) := by decide +kernel
theorem d_M_readsLetter_134 : decode b_M_readsLetter 134 = .ok (.ireturn, 1) := by decide +kernel
theorem d_M_readsLetter_135 : decode b_M_readsLetter 135 = .ok (.aload_n 0, 1) := by decide +kernel
theorem d_M_readsLetter_136 : decode b_M_readsLetter 136 = .ok (.getfield 7, 3) := by decide +kernel
theorem d_M_readsLetter_139 : decode b_M_readsLetter 139 = .ok (.sipush 996, 3) := by decide +kernel
theorem d_M_readsLetter_142 : decode b_M_readsLetter 142 = .ok (.iload_n 1, 1) := by decide +kernel
theorem d_M_readsLetter_143 : decode b_M_readsLetter 143 = .ok (.iadd, 1) := by decide +kernel
theorem d_M_readsLetter_144 : decode b_M_readsLetter 144 = .ok (.aload_n 0, 1) := by decide +kernel
theorem d_M_readsLetter_145 : decode b_M_readsLetter 145 = .ok (.getfield 96, 3) := by decide +kernel
theorem d_M_readsLetter_148 : decode b_M_readsLetter 148 = .ok (.iastore, 1) := by decide +kernel
theorem d_M_readsLetter_149 : decode b_M_readsLetter 149 = .ok (.aload_n 0, 1) := by decide +kernel
theorem d_M_readsLetter_150 : decode b_M_readsLetter 150 = .ok (.getfield 7, 3) := by decide +kernel
theorem d_M_readsLetter_153 : decode b_M_readsLetter 153 = .ok (.sipush 972, 3) := by decide +kernel
theorem d_M_readsLetter_156 : decode b_M_readsLetter 156 = .ok (.dup2, 1) := by decide +kernel
theorem d_M_readsLetter_157 : decode b_M_readsLetter 157 = .ok (.iaload, 1) := by decide +kernel
theorem d_M_readsLetter_158 : decode b_M_readsLetter 158 = .ok (.iconst 1, 1) := by decide +kernel
theorem d_M_readsLetter_159 : decode b_M_readsLetter 159 = .ok (.iadd, 1) := by decide +kernel
theorem d_M_readsLetter_160 : decode b_M_readsLetter 160 = .ok (.iastore, 1) := by decide +kernel
theorem d_M_readsLetter_161 : decode b_M_readsLetter 161 = .ok (.aload_n 0, 1) := by decide +kernel
theorem d_M_readsLetter_162 : decode b_M_readsLetter 162 = .ok (.bipush 59, 2) := by decide +kernel
theorem d_M_readsLetter_164 : decode b_M_readsLetter 164 = .ok (.invokevirtual 99, 3) := by decide +kernel
theorem d_M_readsLetter_167 : decode b_M_readsLetter 167 = .ok (.ireturn, 1) := by decide +kernel
theorem d_M_readsNumber_0 : decode b_M_readsNumber 0 = .ok (.aload_n 0, 1) := by decide +kernel
theorem d_M_readsNumber_1 : decode b_M_readsNumber 1 = .ok (.aload_n 0, 1) := by decide +kernel
theorem d_M_readsNumber_2 : decode b_M_readsNumber 2 = .ok (.getfield 77, 3) := by decide +kernel
theorem d_M_readsNumber_5 : decode b_M_readsNumber 5 = .ok (.invokevirtual 93, 3) := by decide +kernel
theorem d_M_readsNumber_8 : decode b_M_readsNumber 8 = .ok (.ifCond .eq 29, 3) := by decide +kernel
theorem d_M_readsNumber_11 : decode b_M_readsNumber 11 = .ok (.aload_n 0, 1) := by decide +kernel
theorem d_M_readsNumber_12 : decode b_M_readsNumber 12 = .ok (.aload_n 0, 1) := by decide +kernel
theorem d_M_readsNumber_13 : decode b_M_readsNumber 13 = .ok (.getfield 77, 3) := by decide +kernel
theorem d_M_readsNumber_16 : decode b_M_readsNumber 16 = .ok (.iconst 1, 1) := by decide +kernel
theorem d_M_readsNumber_17 : decode b_M_readsNumber 17 = .ok (.iadd, 1) := by decide +kernel
theorem d_M_readsNumber_18 : decode b_M_readsNumber 18 = .ok (.invokevirtual 93, 3) := by decide +kernel
theorem d_M_readsNumber_21 : decode b_M_readsNumber 21 = .ok (.ifCond .eq 22, 3) := by decide +kernel
theorem d_M_readsNumber_24 : decode b_M_readsNumber 24 = .ok (.aload_n 0, 1) := by decide +kernel
theorem d_M_readsNumber_25 : decode b_M_readsNumber 25 = .ok (.aload_n 0, 1) := by decide +kernel
theorem d_M_readsNumber_26 : decode b_M_readsNumber 26 = .ok (.getfield 77, 3) := by decide +kernel
theorem d_M_readsNumber_29 : decode b_M_readsNumber 29 = .ok (.iconst 2, 1) := by decide +kernel
theorem d_M_readsNumber_30 : decode b_M_readsNumber 30 = .ok (.iadd, 1) := by decide +kernel
theorem d_M_readsNumber_31 : decode b_M_readsNumber 31 = .ok (.invokevirtual 93, 3) := by decide +kernel
theorem d_M_readsNumber_34 : decode b_M_readsNumber 34 = .ok (.ifCond .eq 9, 3) := by decide +kernel
theorem d_M_readsNumber_37 : decode b_M_readsNumber 37 = .ok (.aload_n 0, 1) := by decide +kernel
theorem d_M_readsNumber_38 : decode b_M_readsNumber 38 = .ok (.iconst 1, 1) := by decide +kernel
theorem d_M_readsNumber_39 : decode b_M_readsNumber 39 = .ok (.invokevirtual 90, 3) := by decide +kernel
theorem d_M_readsNumber_42 : decode b_M_readsNumber 42 = .ok (.ireturn, 1) := by decide +kernel
theorem d_M_readsNumber_43 : decode b_M_readsNumber 43 = .ok (.aload_n 0, 1) := by decide +kernel
theorem d_M_readsNumber_44 : decode b_M_readsNumber 44 = .ok (.aload_n 0, 1) := by decide +kernel
theorem d_M_readsNumber_45 : decode b_M_readsNumber 45 = .ok (.getfield 26, 3) := by decide +kernel
theorem d_M_readsNumber_48 : decode b_M_readsNumber 48 = .ok (.aload_n 0, 1) := by decide +kernel
theorem d_M_readsNumber_49 : decode b_M_readsNumber 49 = .ok (.getfield 77, 3) := by decide +kernel
theorem d_M_readsNumber_52 : decode b_M_readsNumber 52 = .ok (.iaload, 1) := by decide +kernel
theorem d_M_readsNumber_53 : decode b_M_readsNumber 53 = .ok (.bipush 48, 2) := by decide +kernel
theorem d_M_readsNumber_55 : decode b_M_readsNumber 55 = .ok (.isub, 1) := by decide +kernel
theorem d_M_readsNumber_56 : decode b_M_readsNumber 56 = .ok (.putfield 96, 3) := by decide +kernel
theorem d_M_readsNumber_59 : decode b_M_readsNumber 59 = .ok (.aload_n 0, 1) := by decide +kernel
theorem d_M_readsNumber_60 : decode b_M_readsNumber 60 = .ok (.aload_n 0, 1) := by decide +kernel
theorem d_M_readsNumber_61 : decode b_M_readsNumber 61 = .ok (.getfield 77, 3) := by decide +kernel
theorem d_M_readsNumber_64 : decode b_M_readsNumber 64 = .ok (.iconst 1, 1) := by decide +kernel
theorem d_M_readsNumber_65 : decode b_M_readsNumber 65 = .ok (.iadd, 1) := by decide +kernel
theorem d_M_readsNumber_66 : decode b_M_readsNumber 66 = .ok (.invokevirtual 93, 3) := by decide +kernel
theorem d_M_readsNumber_69 : decode b_M_readsNumber 69 = .ok (.ifCond .eq 7, 3) := by decide +kernel
theorem d_M_readsNumber_72 : decode b_M_readsNumber 72 = .ok (.iconst 2, 1) := by decide +kernel
theorem d_M_readsNumber_73 : decode b_M_readsNumber 73 = .ok (.goto 4, 3) := by decide +kernel
theorem d_M_readsNumber_76 : decode b_M_readsNumber 76 = .ok (.iconst 1, 1) := by decide +kernel
theorem d_M_readsNumber_77 : decode b_M_readsNumber 77 = .ok (.istore_n 3, 1) := by decide +kernel
theorem d_M_readsNumber_78 : decode b_M_readsNumber 78 = .ok (.aload_n 0, 1) := by decide +kernel
theorem d_M_readsNumber_79 : decode b_M_readsNumber 79 = .ok (.iload_n 3, 1) := by decide +kernel
theorem d_M_readsNumber_80 : decode b_M_readsNumber 80 = .ok (.iconst 2, 1) := by decide +kernel
theorem d_M_readsNumber_81 : decode b_M_readsNumber 81 = .ok (.if_icmp .ne 28, 3) := by decide +kernel
theorem d_M_readsNumber_84 : decode b_M_readsNumber 84 = .ok (.bipush 10, 2) := by decide +kernel
theorem d_M_readsNumber_86 : decode b_M_readsNumber 86 = .ok (.aload_n 0, 1) := by decide +kernel
theorem d_M_readsNumber_87 : decode b_M_readsNumber 87 = .ok (.getfield 96, 3) := by decide +kernel
theorem d_M_readsNumber_90 : decode b_M_readsNumber 90 = .ok (.imul, 1) := by decide +kernel
theorem d_M_readsNumber_91 : decode b_M_readsNumber 91 = .ok (.aload_n 0, 1) := by decide +kernel
theorem d_M_readsNumber_92 : decode b_M_readsNumber 92 = .ok (.getfield 26, 3) := by decide +kernel
theorem d_M_readsNumber_95 : decode b_M_readsNumber 95 = .ok (.aload_n 0, 1) := by decide +kernel
theorem d_M_readsNumber_96 : decode b_M_readsNumber 96 = .ok (.getfield 77, 3) := by decide +kernel
theorem d_M_readsNumber_99 : decode b_M_readsNumber 99 = .ok (.iconst 1, 1) := by decide +kernel
theorem d_M_readsNumber_100 : decode b_M_readsNumber 100 = .ok (.iadd, 1) := by decide +kernel
theorem d_M_readsNumber_101 : decode b_M_readsNumber 101 = .ok (.iaload, 1) := by decide +kernel
theorem d_M_readsNumber_102 : decode b_M_readsNumber 102 = .ok (.iadd, 1) := by decide +kernel
theorem d_M_readsNumber_103 : decode b_M_readsNumber 103 = .ok (.bipush 48, 2) := by decide +kernel
theorem d_M_readsNumber_105 : decode b_M_readsNumber 105 = .ok (.isub, 1) := by decide +kernel
theorem d_M_readsNumber_106 : decode b_M_readsNumber 106 = .ok (.goto 7, 3) := by decide +kernel
theorem d_M_readsNumber_109 : decode b_M_readsNumber 109 = .ok (.aload_n 0, 1) := by decide +kernel
theorem d_M_readsNumber_110 : decode b_M_readsNumber 110 = .ok (.getfield 96, 3) := by decide +kernel
theorem d_M_readsNumber_113 : decode b_M_readsNumber 113 = .ok (.putfield 96, 3) := by decide +kernel
theorem d_M_readsNumber_116 : decode b_M_readsNumber 116 = .ok (.aload_n 0, 1) := by decide +kernel
theorem d_M_readsNumber_117 : decode b_M_readsNumber 117 = .ok (.getfield 96, 3) := by decide +kernel
theorem d_M_readsNumber_120 : decode b_M_readsNumber 120 = .ok (.i2l, 1) := by decide +kernel
theorem d_M_readsNumber_121 : decode b_M_readsNumber 121 = .ok (.iload_n 1, 1) := by decide +kernel
theorem d_M_readsNumber_122 : decode b_M_readsNumber 122 = .ok (.i2l, 1) := by decide +kernel
theorem d_M_readsNumber_123 : decode b_M_readsNumber 123 = .ok (.iload_n 2, 1) := by decide +kernel
theorem d_M_readsNumber_124 : decode b_M_readsNumber 124 = .ok (.i2l, 1) := by decide +kernel
theorem d_M_readsNumber_125 : decode b_M_readsNumber 125 = .ok (.invokestatic 45, 3) := by decide +kernel
theorem d_M_readsNumber_128 : decode b_M_readsNumber 128 = .ok (.ifCond .ne 9, 3) := by decide +kernel
theorem d_M_readsNumber_131 : decode b_M_readsNumber 131 = .ok (.aload_n 0, 1) := by decide +kernel
theorem d_M_readsNumber_132 : decode b_M_readsNumber 132 = .ok (.iconst 2, 1) := by decide +kernel
theorem d_M_readsNumber_133 : decode b_M_readsNumber 133 = .ok (.invokevirtual 90, 3) := by decide +kernel
theorem d_M_readsNumber_136 : decode b_M_readsNumber 136 = .ok (.ireturn, 1) := by decide +kernel
theorem d_M_readsNumber_137 : decode b_M_readsNumber 137 = .ok (.aload_n 0, 1) := by decide +kernel
theorem d_M_readsNumber_138 : decode b_M_readsNumber 138 = .ok (.dup, 1) := by decide +kernel
theorem d_M_readsNumber_139 : decode b_M_readsNumber 139 = .ok (.getfield 77, 3) := by decide +kernel
theorem d_M_readsNumber_142 : decode b_M_readsNumber 142 = .ok (.iload_n 3, 1) := by decide +kernel
theorem d_M_readsNumber_143 : decode b_M_readsNumber 143 = .ok (.iadd, 1) := by decide +kernel
theorem d_M_readsNumber_144 : decode b_M_readsNumber 144 = .ok (.putfield 77, 3) := by decide +kernel
theorem d_M_readsNumber_147 : decode b_M_readsNumber 147 = .ok (.iconst 1, 1) := by decide +kernel
theorem d_M_readsNumber_148 : decode b_M_readsNumber 148 = .ok (.ireturn, 1) := by decide +kernel
theorem d_M_refuse_0 : decode b_M_refuse 0 = .ok (.aload_n 0, 1) := by decide +kernel
theorem d_M_refuse_1 : decode b_M_refuse 1 = .ok (.iload_n 1, 1) := by decide +kernel
theorem d_M_refuse_2 : decode b_M_refuse 2 = .ok (.putfield 84, 3) := by decide +kernel
theorem d_M_refuse_5 : decode b_M_refuse 5 = .ok (.iconst 0, 1) := by decide +kernel
theorem d_M_refuse_6 : decode b_M_refuse 6 = .ok (.ireturn, 1) := by decide +kernel
theorem d_M_restore_0 : decode b_M_restore 0 = .ok (.iload_n 1, 1) := by decide +kernel
theorem d_M_restore_1 : decode b_M_restore 1 = .ok (.i2l, 1) := by decide +kernel
theorem d_M_restore_2 : decode b_M_restore 2 = .ok (.lconst 0, 1) := by decide +kernel
theorem d_M_restore_3 : decode b_M_restore 3 = .ok (.lconst 1, 1) := by decide +kernel
theorem d_M_restore_4 : decode b_M_restore 4 = .ok (.invokestatic 45, 3) := by decide +kernel
theorem d_M_restore_7 : decode b_M_restore 7 = .ok (.ifCond .ne 6, 3) := by decide +kernel
theorem d_M_restore_10 : decode b_M_restore 10 = .ok (.ldc 55, 2) := by decide +kernel
theorem d_M_restore_12 : decode b_M_restore 12 = .ok (.ireturn, 1) := by decide +kernel
theorem d_M_restore_13 : decode b_M_restore 13 = .ok (.aload_n 0, 1) := by decide +kernel
theorem d_M_restore_14 : decode b_M_restore 14 = .ok (.getfield 13, 3) := by decide +kernel
theorem d_M_restore_17 : decode b_M_restore 17 = .ok (.iload_n 1, 1) := by decide +kernel
theorem d_M_restore_18 : decode b_M_restore 18 = .ok (.baload, 1) := by decide +kernel
theorem d_M_restore_19 : decode b_M_restore 19 = .ok (.ifCond .ne 6, 3) := by decide +kernel
theorem d_M_restore_22 : decode b_M_restore 22 = .ok (.ldc 137, 2) := by decide +kernel
theorem d_M_restore_24 : decode b_M_restore 24 = .ok (.ireturn, 1) := by decide +kernel
theorem d_M_restore_25 : decode b_M_restore 25 = .ok (.aload_n 0, 1) := by decide +kernel
theorem d_M_restore_26 : decode b_M_restore 26 = .ok (.sipush 900, 3) := by decide +kernel
theorem d_M_restore_29 : decode b_M_restore 29 = .ok (.bipush 36, 2) := by decide +kernel
theorem d_M_restore_31 : decode b_M_restore 31 = .ok (.iload_n 1, 1) := by decide +kernel
theorem d_M_restore_32 : decode b_M_restore 32 = .ok (.imul, 1) := by decide +kernel
theorem d_M_restore_33 : decode b_M_restore 33 = .ok (.iadd, 1) := by decide +kernel
theorem d_M_restore_34 : decode b_M_restore 34 = .ok (.iconst 0, 1) := by decide +kernel
theorem d_M_restore_35 : decode b_M_restore 35 = .ok (.invokevirtual 126, 3) := by decide +kernel
theorem d_M_restore_38 : decode b_M_restore 38 = .ok (.aload_n 0, 1) := by decide +kernel
theorem d_M_restore_39 : decode b_M_restore 39 = .ok (.iconst 0, 1) := by decide +kernel
theorem d_M_restore_40 : decode b_M_restore 40 = .ok (.putfield 134, 3) := by decide +kernel
theorem d_M_restore_43 : decode b_M_restore 43 = .ok (.iconst 1, 1) := by decide +kernel
theorem d_M_restore_44 : decode b_M_restore 44 = .ok (.ireturn, 1) := by decide +kernel
theorem d_M_row_0 : decode b_M_row 0 = .ok (.iload_n 1, 1) := by decide +kernel
theorem d_M_row_1 : decode b_M_row 1 = .ok (.invokestatic 49, 3) := by decide +kernel
theorem d_M_row_4 : decode b_M_row 4 = .ok (.ifCond .eq 21, 3) := by decide +kernel
theorem d_M_row_7 : decode b_M_row 7 = .ok (.iload_n 2, 1) := by decide +kernel
theorem d_M_row_8 : decode b_M_row 8 = .ok (.i2l, 1) := by decide +kernel
theorem d_M_row_9 : decode b_M_row 9 = .ok (.lconst 0, 1) := by decide +kernel
theorem d_M_row_10 : decode b_M_row 10 = .ok (.ldc2_w 53, 3) := by decide +kernel
theorem d_M_row_13 : decode b_M_row 13 = .ok (.invokestatic 45, 3) := by decide +kernel
theorem d_M_row_16 : decode b_M_row 16 = .ok (.ifCond .eq 9, 3) := by decide +kernel
theorem d_M_row_19 : decode b_M_row 19 = .ok (.iload_n 3, 1) := by decide +kernel
theorem d_M_row_20 : decode b_M_row 20 = .ok (.bipush 40, 2) := by decide +kernel
theorem d_M_row_22 : decode b_M_row 22 = .ok (.if_icmp .le 6, 3) := by decide +kernel
theorem d_M_row_25 : decode b_M_row 25 = .ok (.ldc 55, 2) := by decide +kernel
theorem d_M_row_27 : decode b_M_row 27 = .ok (.ireturn, 1) := by decide +kernel
theorem d_M_row_28 : decode b_M_row 28 = .ok (.iload_n 3, 1) := by decide +kernel
theorem d_M_row_29 : decode b_M_row 29 = .ok (.ifCond .ge 9, 3) := by decide +kernel
theorem d_M_row_32 : decode b_M_row 32 = .ok (.aload_n 0, 1) := by decide +kernel
theorem d_M_row_33 : decode b_M_row 33 = .ok (.iconst 4, 1) := by decide +kernel
theorem d_M_row_34 : decode b_M_row 34 = .ok (.invokevirtual 56, 3) := by decide +kernel
theorem d_M_row_37 : decode b_M_row 37 = .ok (.ireturn, 1) := by decide +kernel
theorem d_M_row_38 : decode b_M_row 38 = .ok (.aload_n 0, 1) := by decide +kernel
theorem d_M_row_39 : decode b_M_row 39 = .ok (.getfield 17, 3) := by decide +kernel
theorem d_M_row_42 : decode b_M_row 42 = .ok (.iload_n 1, 1) := by decide +kernel
theorem d_M_row_43 : decode b_M_row 43 = .ok (.iload_n 2, 1) := by decide +kernel
theorem d_M_row_44 : decode b_M_row 44 = .ok (.iastore, 1) := by decide +kernel
theorem d_M_row_45 : decode b_M_row 45 = .ok (.aload_n 0, 1) := by decide +kernel
theorem d_M_row_46 : decode b_M_row 46 = .ok (.getfield 20, 3) := by decide +kernel
theorem d_M_row_49 : decode b_M_row 49 = .ok (.iload_n 1, 1) := by decide +kernel
theorem d_M_row_50 : decode b_M_row 50 = .ok (.iload_n 3, 1) := by decide +kernel
theorem d_M_row_51 : decode b_M_row 51 = .ok (.iastore, 1) := by decide +kernel
theorem d_M_row_52 : decode b_M_row 52 = .ok (.iconst 0, 1) := by decide +kernel
theorem d_M_row_53 : decode b_M_row 53 = .ok (.istore 4, 2) := by decide +kernel
theorem d_M_row_55 : decode b_M_row 55 = .ok (.iload 4, 2) := by decide +kernel
theorem d_M_row_57 : decode b_M_row 57 = .ok (.bipush 40, 2) := by decide +kernel
theorem d_M_row_59 : decode b_M_row 59 = .ok (.if_icmp .ge 22, 3) := by decide +kernel
theorem d_M_row_62 : decode b_M_row 62 = .ok (.aload_n 0, 1) := by decide +kernel
theorem d_M_row_63 : decode b_M_row 63 = .ok (.getfield 23, 3) := by decide +kernel
theorem d_M_row_66 : decode b_M_row 66 = .ok (.bipush 40, 2) := by decide +kernel
theorem d_M_row_68 : decode b_M_row 68 = .ok (.iload_n 1, 1) := by decide +kernel
theorem d_M_row_69 : decode b_M_row 69 = .ok (.imul, 1) := by decide +kernel
theorem d_M_row_70 : decode b_M_row 70 = .ok (.iload 4, 2) := by decide +kernel
theorem d_M_row_72 : decode b_M_row 72 = .ok (.iadd, 1) := by decide +kernel
theorem d_M_row_73 : decode b_M_row 73 = .ok (.iconst 0, 1) := by decide +kernel
theorem d_M_row_74 : decode b_M_row 74 = .ok (.iastore, 1) := by decide +kernel
theorem d_M_row_75 : decode b_M_row 75 = .ok (.iinc 4 1, 3) := by decide +kernel
theorem d_M_row_78 : decode b_M_row 78 = .ok (.goto (-23), 3) := by decide +kernel
theorem d_M_row_81 : decode b_M_row 81 = .ok (.aload_n 0, 1) := by decide +kernel
theorem d_M_row_82 : decode b_M_row 82 = .ok (.iload_n 3, 1) := by decide +kernel
theorem d_M_row_83 : decode b_M_row 83 = .ok (.invokevirtual 60, 3) := by decide +kernel
theorem d_M_row_86 : decode b_M_row 86 = .ok (.ireturn, 1) := by decide +kernel
theorem d_M_set_0 : decode b_M_set 0 = .ok (.iload_n 1, 1) := by decide +kernel
theorem d_M_set_1 : decode b_M_set 1 = .ok (.invokestatic 49, 3) := by decide +kernel
theorem d_M_set_4 : decode b_M_set 4 = .ok (.ifCond .ne 6, 3) := by decide +kernel
theorem d_M_set_7 : decode b_M_set 7 = .ok (.ldc 55, 2) := by decide +kernel
theorem d_M_set_9 : decode b_M_set 9 = .ok (.ireturn, 1) := by decide +kernel
theorem d_M_set_10 : decode b_M_set 10 = .ok (.aload_n 0, 1) := by decide +kernel
theorem d_M_set_11 : decode b_M_set 11 = .ok (.getfield 20, 3) := by decide +kernel
theorem d_M_set_14 : decode b_M_set 14 = .ok (.iload_n 1, 1) := by decide +kernel
theorem d_M_set_15 : decode b_M_set 15 = .ok (.iaload, 1) := by decide +kernel
theorem d_M_set_16 : decode b_M_set 16 = .ok (.ifCond .ge 9, 3) := by decide +kernel
theorem d_M_set_19 : decode b_M_set 19 = .ok (.aload_n 0, 1) := by decide +kernel
theorem d_M_set_20 : decode b_M_set 20 = .ok (.iconst 1, 1) := by decide +kernel
theorem d_M_set_21 : decode b_M_set 21 = .ok (.invokevirtual 56, 3) := by decide +kernel
theorem d_M_set_24 : decode b_M_set 24 = .ok (.ireturn, 1) := by decide +kernel
theorem d_M_set_25 : decode b_M_set 25 = .ok (.iload_n 2, 1) := by decide +kernel
theorem d_M_set_26 : decode b_M_set 26 = .ok (.i2l, 1) := by decide +kernel
theorem d_M_set_27 : decode b_M_set 27 = .ok (.lconst 0, 1) := by decide +kernel
theorem d_M_set_28 : decode b_M_set 28 = .ok (.aload_n 0, 1) := by decide +kernel
theorem d_M_set_29 : decode b_M_set 29 = .ok (.getfield 20, 3) := by decide +kernel
theorem d_M_set_32 : decode b_M_set 32 = .ok (.iload_n 1, 1) := by decide +kernel
theorem d_M_set_33 : decode b_M_set 33 = .ok (.iaload, 1) := by decide +kernel
theorem d_M_set_34 : decode b_M_set 34 = .ok (.iconst 1, 1) := by decide +kernel
theorem d_M_set_35 : decode b_M_set 35 = .ok (.isub, 1) := by decide +kernel
theorem d_M_set_36 : decode b_M_set 36 = .ok (.i2l, 1) := by decide +kernel
theorem d_M_set_37 : decode b_M_set 37 = .ok (.invokestatic 45, 3) := by decide +kernel
theorem d_M_set_40 : decode b_M_set 40 = .ok (.ifCond .ne 9, 3) := by decide +kernel
theorem d_M_set_43 : decode b_M_set 43 = .ok (.aload_n 0, 1) := by decide +kernel
theorem d_M_set_44 : decode b_M_set 44 = .ok (.iconst 2, 1) := by decide +kernel
theorem d_M_set_45 : decode b_M_set 45 = .ok (.invokevirtual 56, 3) := by decide +kernel
theorem d_M_set_48 : decode b_M_set 48 = .ok (.ireturn, 1) := by decide +kernel
theorem d_M_set_49 : decode b_M_set 49 = .ok (.aload_n 0, 1) := by decide +kernel
theorem d_M_set_50 : decode b_M_set 50 = .ok (.getfield 23, 3) := by decide +kernel
theorem d_M_set_53 : decode b_M_set 53 = .ok (.bipush 40, 2) := by decide +kernel
theorem d_M_set_55 : decode b_M_set 55 = .ok (.iload_n 1, 1) := by decide +kernel
theorem d_M_set_56 : decode b_M_set 56 = .ok (.imul, 1) := by decide +kernel
theorem d_M_set_57 : decode b_M_set 57 = .ok (.iload_n 2, 1) := by decide +kernel
theorem d_M_set_58 : decode b_M_set 58 = .ok (.iadd, 1) := by decide +kernel
theorem d_M_set_59 : decode b_M_set 59 = .ok (.iload_n 3, 1) := by decide +kernel
theorem d_M_set_60 : decode b_M_set 60 = .ok (.aload_n 0, 1) := by decide +kernel
theorem d_M_set_61 : decode b_M_set 61 = .ok (.getfield 17, 3) := by decide +kernel
theorem d_M_set_64 : decode b_M_set 64 = .ok (.iload_n 1, 1) := by decide +kernel
theorem d_M_set_65 : decode b_M_set 65 = .ok (.iaload, 1) := by decide +kernel
theorem d_M_set_66 : decode b_M_set 66 = .ok (.invokestatic 63, 3) := by decide +kernel
theorem d_M_set_69 : decode b_M_set 69 = .ok (.iastore, 1) := by decide +kernel
theorem d_M_set_70 : decode b_M_set 70 = .ok (.aload_n 0, 1) := by decide +kernel
theorem d_M_set_71 : decode b_M_set 71 = .ok (.aload_n 0, 1) := by decide +kernel
theorem d_M_set_72 : decode b_M_set 72 = .ok (.getfield 23, 3) := by decide +kernel
theorem d_M_set_75 : decode b_M_set 75 = .ok (.bipush 40, 2) := by decide +kernel
theorem d_M_set_77 : decode b_M_set 77 = .ok (.iload_n 1, 1) := by decide +kernel
theorem d_M_set_78 : decode b_M_set 78 = .ok (.imul, 1) := by decide +kernel
theorem d_M_set_79 : decode b_M_set 79 = .ok (.iload_n 2, 1) := by decide +kernel
theorem d_M_set_80 : decode b_M_set 80 = .ok (.iadd, 1) := by decide +kernel
theorem d_M_set_81 : decode b_M_set 81 = .ok (.iaload, 1) := by decide +kernel
theorem d_M_set_82 : decode b_M_set 82 = .ok (.invokevirtual 60, 3) := by decide +kernel
theorem d_M_set_85 : decode b_M_set 85 = .ok (.ireturn, 1) := by decide +kernel
theorem d_M_sign_0 : decode b_M_sign 0 = .ok (.aload_n 0, 1) := by decide +kernel
theorem d_M_sign_1 : decode b_M_sign 1 = .ok (.iload_n 1, 1) := by decide +kernel
theorem d_M_sign_2 : decode b_M_sign 2 = .ok (.invokevirtual 87, 3) := by decide +kernel
theorem d_M_sign_5 : decode b_M_sign 5 = .ok (.ifCond .ne 9, 3) := by decide +kernel
theorem d_M_sign_8 : decode b_M_sign 8 = .ok (.aload_n 0, 1) := by decide +kernel
theorem d_M_sign_9 : decode b_M_sign 9 = .ok (.iconst 1, 1) := by decide +kernel
theorem d_M_sign_10 : decode b_M_sign 10 = .ok (.invokevirtual 90, 3) := by decide +kernel
theorem d_M_sign_13 : decode b_M_sign 13 = .ok (.ireturn, 1) := by decide +kernel
theorem d_M_sign_14 : decode b_M_sign 14 = .ok (.aload_n 0, 1) := by decide +kernel
theorem d_M_sign_15 : decode b_M_sign 15 = .ok (.dup, 1) := by decide +kernel
theorem d_M_sign_16 : decode b_M_sign 16 = .ok (.getfield 77, 3) := by decide +kernel
theorem d_M_sign_19 : decode b_M_sign 19 = .ok (.iconst 1, 1) := by decide +kernel
theorem d_M_sign_20 : decode b_M_sign 20 = .ok (.iadd, 1) := by decide +kernel
theorem d_M_sign_21 : decode b_M_sign 21 = .ok (.putfield 77, 3) := by decide +kernel
theorem d_M_sign_24 : decode b_M_sign 24 = .ok (.iconst 1, 1) := by decide +kernel
theorem d_M_sign_25 : decode b_M_sign 25 = .ok (.ireturn, 1) := by decide +kernel
theorem d_M_sizeOf_0 : decode b_M_sizeOf 0 = .ok (.aload_n 0, 1) := by decide +kernel
theorem d_M_sizeOf_1 : decode b_M_sizeOf 1 = .ok (.getfield 7, 3) := by decide +kernel
theorem d_M_sizeOf_4 : decode b_M_sizeOf 4 = .ok (.bipush 6, 2) := by decide +kernel
theorem d_M_sizeOf_6 : decode b_M_sizeOf 6 = .ok (.iload_n 1, 1) := by decide +kernel
theorem d_M_sizeOf_7 : decode b_M_sizeOf 7 = .ok (.iadd, 1) := by decide +kernel
theorem d_M_sizeOf_8 : decode b_M_sizeOf 8 = .ok (.iaload, 1) := by decide +kernel
theorem d_M_sizeOf_9 : decode b_M_sizeOf 9 = .ok (.tableswitch 64 2 5 #[31, 64, 44, 50], 31) := by decide +kernel
theorem d_M_sizeOf_40 : decode b_M_sizeOf 40 = .ok (.aload_n 0, 1) := by decide +kernel
theorem d_M_sizeOf_41 : decode b_M_sizeOf 41 = .ok (.bipush 12, 2) := by decide +kernel
theorem d_M_sizeOf_43 : decode b_M_sizeOf 43 = .ok (.invokevirtual 250, 3) := by decide +kernel
theorem d_M_sizeOf_46 : decode b_M_sizeOf 46 = .ok (.aload_n 0, 1) := by decide +kernel
theorem d_M_sizeOf_47 : decode b_M_sizeOf 47 = .ok (.iload_n 1, 1) := by decide +kernel
theorem d_M_sizeOf_48 : decode b_M_sizeOf 48 = .ok (.invokevirtual 259, 3) := by decide +kernel
theorem d_M_sizeOf_51 : decode b_M_sizeOf 51 = .ok (.ineg, 1) := by decide +kernel
theorem d_M_sizeOf_52 : decode b_M_sizeOf 52 = .ok (.ireturn, 1) := by decide +kernel
theorem d_M_sizeOf_53 : decode b_M_sizeOf 53 = .ok (.aload_n 0, 1) := by decide +kernel
theorem d_M_sizeOf_54 : decode b_M_sizeOf 54 = .ok (.iload_n 1, 1) := by decide +kernel
theorem d_M_sizeOf_55 : decode b_M_sizeOf 55 = .ok (.invokevirtual 262, 3) := by decide +kernel
theorem d_M_sizeOf_58 : decode b_M_sizeOf 58 = .ok (.ireturn, 1) := by decide +kernel
theorem d_M_sizeOf_59 : decode b_M_sizeOf 59 = .ok (.aload_n 0, 1) := by decide +kernel
theorem d_M_sizeOf_60 : decode b_M_sizeOf 60 = .ok (.bipush 14, 2) := by decide +kernel
theorem d_M_sizeOf_62 : decode b_M_sizeOf 62 = .ok (.invokevirtual 250, 3) := by decide +kernel
theorem d_M_sizeOf_65 : decode b_M_sizeOf 65 = .ok (.iconst 2, 1) := by decide +kernel
theorem d_M_sizeOf_66 : decode b_M_sizeOf 66 = .ok (.aload_n 0, 1) := by decide +kernel
theorem d_M_sizeOf_67 : decode b_M_sizeOf 67 = .ok (.iload_n 1, 1) := by decide +kernel
theorem d_M_sizeOf_68 : decode b_M_sizeOf 68 = .ok (.invokevirtual 262, 3) := by decide +kernel
theorem d_M_sizeOf_71 : decode b_M_sizeOf 71 = .ok (.imul, 1) := by decide +kernel
theorem d_M_sizeOf_72 : decode b_M_sizeOf 72 = .ok (.ireturn, 1) := by decide +kernel
theorem d_M_sizeOf_73 : decode b_M_sizeOf 73 = .ok (.aload_n 0, 1) := by decide +kernel
theorem d_M_sizeOf_74 : decode b_M_sizeOf 74 = .ok (.iload_n 1, 1) := by decide +kernel
theorem d_M_sizeOf_75 : decode b_M_sizeOf 75 = .ok (.invokevirtual 259, 3) := by decide +kernel
theorem d_M_sizeOf_78 : decode b_M_sizeOf 78 = .ok (.ireturn, 1) := by decide +kernel
theorem d_M_status_0 : decode b_M_status 0 = .ok (.aload_n 0, 1) := by decide +kernel
theorem d_M_status_1 : decode b_M_status 1 = .ok (.getfield 38, 3) := by decide +kernel
theorem d_M_status_4 : decode b_M_status 4 = .ok (.ireturn, 1) := by decide +kernel
theorem d_M_stealth_0 : decode b_M_stealth 0 = .ok (.aload_n 0, 1) := by decide +kernel
theorem d_M_stealth_1 : decode b_M_stealth 1 = .ok (.getfield 130, 3) := by decide +kernel
theorem d_M_stealth_4 : decode b_M_stealth 4 = .ok (.ifCond .ne 6, 3) := by decide +kernel
theorem d_M_stealth_7 : decode b_M_stealth 7 = .ok (.ldc 137, 2) := by decide +kernel
theorem d_M_stealth_9 : decode b_M_stealth 9 = .ok (.ireturn, 1) := by decide +kernel
theorem d_M_stealth_10 : decode b_M_stealth 10 = .ok (.iload_n 1, 1) := by decide +kernel
theorem d_M_stealth_11 : decode b_M_stealth 11 = .ok (.invokestatic 49, 3) := by decide +kernel
theorem d_M_stealth_14 : decode b_M_stealth 14 = .ok (.ifCond .eq 15, 3) := by decide +kernel
theorem d_M_stealth_17 : decode b_M_stealth 17 = .ok (.iload_n 3, 1) := by decide +kernel
theorem d_M_stealth_18 : decode b_M_stealth 18 = .ok (.i2l, 1) := by decide +kernel
theorem d_M_stealth_19 : decode b_M_stealth 19 = .ok (.lconst 1, 1) := by decide +kernel

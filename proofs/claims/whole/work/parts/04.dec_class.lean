theorem dX0_init_0 : decode cX0_init 0 = .ok (.aload_n 0, 1) := by decide +kernel
theorem dX0_init_1 : decode cX0_init 1 = .ok (.invokespecial 3, 3) := by decide +kernel
theorem dX0_init_4 : decode cX0_init 4 = .ok (.aload_n 0, 1) := by decide +kernel
theorem dX0_init_5 : decode cX0_init 5 = .ok (.new 9, 3) := by decide +kernel
theorem dX0_init_8 : decode cX0_init 8 = .ok (.dup, 1) := by decide +kernel
theorem dX0_init_9 : decode cX0_init 9 = .ok (.invokespecial 11, 3) := by decide +kernel
theorem dX0_init_12 : decode cX0_init 12 = .ok (.putfield 12, 3) := by decide +kernel
theorem dX0_init_15 : decode cX0_init 15 = .ok (.aload_n 0, 1) := by decide +kernel
theorem dX0_init_16 : decode cX0_init 16 = .ok (.sipush 256, 3) := by decide +kernel
theorem dX0_init_19 : decode cX0_init 19 = .ok (.newarray .boolean, 2) := by decide +kernel
theorem dX0_init_21 : decode cX0_init 21 = .ok (.putfield 18, 3) := by decide +kernel
theorem dX0_init_24 : decode cX0_init 24 = .ok (.aload_n 0, 1) := by decide +kernel
theorem dX0_init_25 : decode cX0_init 25 = .ok (.iconst 1, 1) := by decide +kernel
theorem dX0_init_26 : decode cX0_init 26 = .ok (.putfield 22, 3) := by decide +kernel
theorem dX0_init_29 : decode cX0_init 29 = .ok (.return_, 1) := by decide +kernel
theorem dX0_begin_0 : decode cX0_begin 0 = .ok (.aload_n 0, 1) := by decide +kernel
theorem dX0_begin_1 : decode cX0_begin 1 = .ok (.getfield 12, 3) := by decide +kernel
theorem dX0_begin_4 : decode cX0_begin 4 = .ok (.aload_n 1, 1) := by decide +kernel
theorem dX0_begin_5 : decode cX0_begin 5 = .ok (.iconst 0, 1) := by decide +kernel
theorem dX0_begin_6 : decode cX0_begin 6 = .ok (.aload_n 1, 1) := by decide +kernel
theorem dX0_begin_7 : decode cX0_begin 7 = .ok (.getfield 26, 3) := by decide +kernel
theorem dX0_begin_10 : decode cX0_begin 10 = .ok (.invokevirtual 30, 3) := by decide +kernel
theorem dX0_begin_13 : decode cX0_begin 13 = .ok (.pop, 1) := by decide +kernel
theorem dX0_begin_14 : decode cX0_begin 14 = .ok (.aload_n 0, 1) := by decide +kernel
theorem dX0_begin_15 : decode cX0_begin 15 = .ok (.aload_n 2, 1) := by decide +kernel
theorem dX0_begin_16 : decode cX0_begin 16 = .ok (.invokevirtual 34, 3) := by decide +kernel
theorem dX0_begin_19 : decode cX0_begin 19 = .ok (.aload_n 0, 1) := by decide +kernel
theorem dX0_begin_20 : decode cX0_begin 20 = .ok (.iload_n 3, 1) := by decide +kernel
theorem dX0_begin_21 : decode cX0_begin 21 = .ok (.putfield 38, 3) := by decide +kernel
theorem dX0_begin_24 : decode cX0_begin 24 = .ok (.aload_n 0, 1) := by decide +kernel
theorem dX0_begin_25 : decode cX0_begin 25 = .ok (.iconst 0, 1) := by decide +kernel
theorem dX0_begin_26 : decode cX0_begin 26 = .ok (.putfield 41, 3) := by decide +kernel
theorem dX0_begin_29 : decode cX0_begin 29 = .ok (.aload_n 0, 1) := by decide +kernel
theorem dX0_begin_30 : decode cX0_begin 30 = .ok (.iconst 0, 1) := by decide +kernel
theorem dX0_begin_31 : decode cX0_begin 31 = .ok (.putfield 22, 3) := by decide +kernel
theorem dX0_begin_34 : decode cX0_begin 34 = .ok (.return_, 1) := by decide +kernel
theorem dX0_separateBy_0 : decode cX0_separateBy 0 = .ok (.iconst 0, 1) := by decide +kernel
theorem dX0_separateBy_1 : decode cX0_separateBy 1 = .ok (.istore_n 2, 1) := by decide +kernel
theorem dX0_separateBy_2 : decode cX0_separateBy 2 = .ok (.iload_n 2, 1) := by decide +kernel
theorem dX0_separateBy_3 : decode cX0_separateBy 3 = .ok (.aload_n 0, 1) := by decide +kernel
theorem dX0_separateBy_4 : decode cX0_separateBy 4 = .ok (.getfield 18, 3) := by decide +kernel
theorem dX0_separateBy_7 : decode cX0_separateBy 7 = .ok (.arraylength, 1) := by decide +kernel
theorem dX0_separateBy_8 : decode cX0_separateBy 8 = .ok (.if_icmp .ge 16, 3) := by decide +kernel
theorem dX0_separateBy_11 : decode cX0_separateBy 11 = .ok (.aload_n 0, 1) := by decide +kernel
theorem dX0_separateBy_12 : decode cX0_separateBy 12 = .ok (.getfield 18, 3) := by decide +kernel
theorem dX0_separateBy_15 : decode cX0_separateBy 15 = .ok (.iload_n 2, 1) := by decide +kernel
theorem dX0_separateBy_16 : decode cX0_separateBy 16 = .ok (.iconst 0, 1) := by decide +kernel
theorem dX0_separateBy_17 : decode cX0_separateBy 17 = .ok (.bastore, 1) := by decide +kernel
theorem dX0_separateBy_18 : decode cX0_separateBy 18 = .ok (.iinc 2 1, 3) := by decide +kernel
theorem dX0_separateBy_21 : decode cX0_separateBy 21 = .ok (.goto (-19), 3) := by decide +kernel
theorem dX0_separateBy_24 : decode cX0_separateBy 24 = .ok (.iconst 0, 1) := by decide +kernel
theorem dX0_separateBy_25 : decode cX0_separateBy 25 = .ok (.istore_n 2, 1) := by decide +kernel
theorem dX0_separateBy_26 : decode cX0_separateBy 26 = .ok (.iload_n 2, 1) := by decide +kernel
theorem dX0_separateBy_27 : decode cX0_separateBy 27 = .ok (.aload_n 1, 1) := by decide +kernel
theorem dX0_separateBy_28 : decode cX0_separateBy 28 = .ok (.getfield 26, 3) := by decide +kernel
theorem dX0_separateBy_31 : decode cX0_separateBy 31 = .ok (.if_icmp .ge 35, 3) := by decide +kernel
theorem dX0_separateBy_34 : decode cX0_separateBy 34 = .ok (.aload_n 1, 1) := by decide +kernel
theorem dX0_separateBy_35 : decode cX0_separateBy 35 = .ok (.iload_n 2, 1) := by decide +kernel
theorem dX0_separateBy_36 : decode cX0_separateBy 36 = .ok (.invokevirtual 44, 3) := by decide +kernel
theorem dX0_separateBy_39 : decode cX0_separateBy 39 = .ok (.istore_n 3, 1) := by decide +kernel
theorem dX0_separateBy_40 : decode cX0_separateBy 40 = .ok (.iload_n 3, 1) := by decide +kernel
theorem dX0_separateBy_41 : decode cX0_separateBy 41 = .ok (.ifCond .lt 19, 3) := by decide +kernel
theorem dX0_separateBy_44 : decode cX0_separateBy 44 = .ok (.iload_n 3, 1) := by decide +kernel
theorem dX0_separateBy_45 : decode cX0_separateBy 45 = .ok (.aload_n 0, 1) := by decide +kernel
theorem dX0_separateBy_46 : decode cX0_separateBy 46 = .ok (.getfield 18, 3) := by decide +kernel
theorem dX0_separateBy_49 : decode cX0_separateBy 49 = .ok (.arraylength, 1) := by decide +kernel
theorem dX0_separateBy_50 : decode cX0_separateBy 50 = .ok (.if_icmp .ge 10, 3) := by decide +kernel
theorem dX0_separateBy_53 : decode cX0_separateBy 53 = .ok (.aload_n 0, 1) := by decide +kernel
theorem dX0_separateBy_54 : decode cX0_separateBy 54 = .ok (.getfield 18, 3) := by decide +kernel
theorem dX0_separateBy_57 : decode cX0_separateBy 57 = .ok (.iload_n 3, 1) := by decide +kernel
theorem dX0_separateBy_58 : decode cX0_separateBy 58 = .ok (.iconst 1, 1) := by decide +kernel
theorem dX0_separateBy_59 : decode cX0_separateBy 59 = .ok (.bastore, 1) := by decide +kernel
theorem dX0_separateBy_60 : decode cX0_separateBy 60 = .ok (.iinc 2 1, 3) := by decide +kernel
theorem dX0_separateBy_63 : decode cX0_separateBy 63 = .ok (.goto (-37), 3) := by decide +kernel
theorem dX0_separateBy_66 : decode cX0_separateBy 66 = .ok (.return_, 1) := by decide +kernel
theorem dX0_hasToken_0 : decode cX0_hasToken 0 = .ok (.aload_n 0, 1) := by decide +kernel
theorem dX0_hasToken_1 : decode cX0_hasToken 1 = .ok (.aload_n 0, 1) := by decide +kernel
theorem dX0_hasToken_2 : decode cX0_hasToken 2 = .ok (.getfield 41, 3) := by decide +kernel
theorem dX0_hasToken_5 : decode cX0_hasToken 5 = .ok (.invokevirtual 48, 3) := by decide +kernel
theorem dX0_hasToken_8 : decode cX0_hasToken 8 = .ok (.aload_n 0, 1) := by decide +kernel
theorem dX0_hasToken_9 : decode cX0_hasToken 9 = .ok (.getfield 12, 3) := by decide +kernel
theorem dX0_hasToken_12 : decode cX0_hasToken 12 = .ok (.getfield 26, 3) := by decide +kernel
theorem dX0_hasToken_15 : decode cX0_hasToken 15 = .ok (.if_icmp .ge 7, 3) := by decide +kernel
theorem dX0_hasToken_18 : decode cX0_hasToken 18 = .ok (.iconst 1, 1) := by decide +kernel
theorem dX0_hasToken_19 : decode cX0_hasToken 19 = .ok (.goto 4, 3) := by decide +kernel
theorem dX0_hasToken_22 : decode cX0_hasToken 22 = .ok (.iconst 0, 1) := by decide +kernel
theorem dX0_hasToken_23 : decode cX0_hasToken 23 = .ok (.ireturn, 1) := by decide +kernel
theorem dX0_tokensLeft_0 : decode cX0_tokensLeft 0 = .ok (.aload_n 0, 1) := by decide +kernel
theorem dX0_tokensLeft_1 : decode cX0_tokensLeft 1 = .ok (.aload_n 0, 1) := by decide +kernel
theorem dX0_tokensLeft_2 : decode cX0_tokensLeft 2 = .ok (.getfield 41, 3) := by decide +kernel
theorem dX0_tokensLeft_5 : decode cX0_tokensLeft 5 = .ok (.invokevirtual 48, 3) := by decide +kernel
theorem dX0_tokensLeft_8 : decode cX0_tokensLeft 8 = .ok (.istore_n 1, 1) := by decide +kernel
theorem dX0_tokensLeft_9 : decode cX0_tokensLeft 9 = .ok (.iconst 0, 1) := by decide +kernel
theorem dX0_tokensLeft_10 : decode cX0_tokensLeft 10 = .ok (.istore_n 2, 1) := by decide +kernel
theorem dX0_tokensLeft_11 : decode cX0_tokensLeft 11 = .ok (.iload_n 2, 1) := by decide +kernel
theorem dX0_tokensLeft_12 : decode cX0_tokensLeft 12 = .ok (.sipush 200, 3) := by decide +kernel
theorem dX0_tokensLeft_15 : decode cX0_tokensLeft 15 = .ok (.if_icmp .ge 30, 3) := by decide +kernel
theorem dX0_tokensLeft_18 : decode cX0_tokensLeft 18 = .ok (.iload_n 1, 1) := by decide +kernel
theorem dX0_tokensLeft_19 : decode cX0_tokensLeft 19 = .ok (.aload_n 0, 1) := by decide +kernel
theorem dX0_tokensLeft_20 : decode cX0_tokensLeft 20 = .ok (.getfield 12, 3) := by decide +kernel
theorem dX0_tokensLeft_23 : decode cX0_tokensLeft 23 = .ok (.getfield 26, 3) := by decide +kernel
theorem dX0_tokensLeft_26 : decode cX0_tokensLeft 26 = .ok (.if_icmp .ge 19, 3) := by decide +kernel
theorem dX0_tokensLeft_29 : decode cX0_tokensLeft 29 = .ok (.iinc 2 1, 3) := by decide +kernel
theorem dX0_tokensLeft_32 : decode cX0_tokensLeft 32 = .ok (.aload_n 0, 1) := by decide +kernel
theorem dX0_tokensLeft_33 : decode cX0_tokensLeft 33 = .ok (.aload_n 0, 1) := by decide +kernel
theorem dX0_tokensLeft_34 : decode cX0_tokensLeft 34 = .ok (.iload_n 1, 1) := by decide +kernel
theorem dX0_tokensLeft_35 : decode cX0_tokensLeft 35 = .ok (.invokevirtual 51, 3) := by decide +kernel
theorem dX0_tokensLeft_38 : decode cX0_tokensLeft 38 = .ok (.invokevirtual 48, 3) := by decide +kernel
theorem dX0_tokensLeft_41 : decode cX0_tokensLeft 41 = .ok (.istore_n 1, 1) := by decide +kernel
theorem dX0_tokensLeft_42 : decode cX0_tokensLeft 42 = .ok (.goto (-31), 3) := by decide +kernel
theorem dX0_tokensLeft_45 : decode cX0_tokensLeft 45 = .ok (.iload_n 2, 1) := by decide +kernel
theorem dX0_tokensLeft_46 : decode cX0_tokensLeft 46 = .ok (.ireturn, 1) := by decide +kernel
theorem dX0_giveToken_0 : decode cX0_giveToken 0 = .ok (.aload_n 0, 1) := by decide +kernel
theorem dX0_giveToken_1 : decode cX0_giveToken 1 = .ok (.aload_n 0, 1) := by decide +kernel
theorem dX0_giveToken_2 : decode cX0_giveToken 2 = .ok (.getfield 41, 3) := by decide +kernel
theorem dX0_giveToken_5 : decode cX0_giveToken 5 = .ok (.invokevirtual 48, 3) := by decide +kernel
theorem dX0_giveToken_8 : decode cX0_giveToken 8 = .ok (.istore_n 2, 1) := by decide +kernel
theorem dX0_giveToken_9 : decode cX0_giveToken 9 = .ok (.iload_n 2, 1) := by decide +kernel
theorem dX0_giveToken_10 : decode cX0_giveToken 10 = .ok (.aload_n 0, 1) := by decide +kernel
theorem dX0_giveToken_11 : decode cX0_giveToken 11 = .ok (.getfield 12, 3) := by decide +kernel
theorem dX0_giveToken_14 : decode cX0_giveToken 14 = .ok (.getfield 26, 3) := by decide +kernel
theorem dX0_giveToken_17 : decode cX0_giveToken 17 = .ok (.if_icmp .lt 12, 3) := by decide +kernel
theorem dX0_giveToken_20 : decode cX0_giveToken 20 = .ok (.aload_n 0, 1) := by decide +kernel
theorem dX0_giveToken_21 : decode cX0_giveToken 21 = .ok (.iconst 1, 1) := by decide +kernel
theorem dX0_giveToken_22 : decode cX0_giveToken 22 = .ok (.putfield 22, 3) := by decide +kernel
theorem dX0_giveToken_25 : decode cX0_giveToken 25 = .ok (.sipush (-1006), 3) := by decide +kernel
theorem dX0_giveToken_28 : decode cX0_giveToken 28 = .ok (.ireturn, 1) := by decide +kernel
theorem dX0_giveToken_29 : decode cX0_giveToken 29 = .ok (.aload_n 0, 1) := by decide +kernel
theorem dX0_giveToken_30 : decode cX0_giveToken 30 = .ok (.aload_n 0, 1) := by decide +kernel
theorem dX0_giveToken_31 : decode cX0_giveToken 31 = .ok (.iload_n 2, 1) := by decide +kernel
theorem dX0_giveToken_32 : decode cX0_giveToken 32 = .ok (.invokevirtual 51, 3) := by decide +kernel
theorem dX0_giveToken_35 : decode cX0_giveToken 35 = .ok (.putfield 41, 3) := by decide +kernel
theorem dX0_giveToken_38 : decode cX0_giveToken 38 = .ok (.aload_n 1, 1) := by decide +kernel
theorem dX0_giveToken_39 : decode cX0_giveToken 39 = .ok (.aload_n 0, 1) := by decide +kernel
theorem dX0_giveToken_40 : decode cX0_giveToken 40 = .ok (.getfield 12, 3) := by decide +kernel
theorem dX0_giveToken_43 : decode cX0_giveToken 43 = .ok (.iload_n 2, 1) := by decide +kernel
theorem dX0_giveToken_44 : decode cX0_giveToken 44 = .ok (.aload_n 0, 1) := by decide +kernel
theorem dX0_giveToken_45 : decode cX0_giveToken 45 = .ok (.getfield 41, 3) := by decide +kernel
theorem dX0_giveToken_48 : decode cX0_giveToken 48 = .ok (.invokevirtual 54, 3) := by decide +kernel
theorem dX0_giveToken_51 : decode cX0_giveToken 51 = .ok (.ireturn, 1) := by decide +kernel
theorem dX0_separatesAt_0 : decode cX0_separatesAt 0 = .ok (.aload_n 0, 1) := by decide +kernel
theorem dX0_separatesAt_1 : decode cX0_separatesAt 1 = .ok (.getfield 12, 3) := by decide +kernel
theorem dX0_separatesAt_4 : decode cX0_separatesAt 4 = .ok (.iload_n 1, 1) := by decide +kernel
theorem dX0_separatesAt_5 : decode cX0_separatesAt 5 = .ok (.invokevirtual 44, 3) := by decide +kernel
theorem dX0_separatesAt_8 : decode cX0_separatesAt 8 = .ok (.istore_n 2, 1) := by decide +kernel
theorem dX0_separatesAt_9 : decode cX0_separatesAt 9 = .ok (.iload_n 2, 1) := by decide +kernel
theorem dX0_separatesAt_10 : decode cX0_separatesAt 10 = .ok (.ifCond .lt 25, 3) := by decide +kernel
theorem dX0_separatesAt_13 : decode cX0_separatesAt 13 = .ok (.iload_n 2, 1) := by decide +kernel
theorem dX0_separatesAt_14 : decode cX0_separatesAt 14 = .ok (.aload_n 0, 1) := by decide +kernel
theorem dX0_separatesAt_15 : decode cX0_separatesAt 15 = .ok (.getfield 18, 3) := by decide +kernel
theorem dX0_separatesAt_18 : decode cX0_separatesAt 18 = .ok (.arraylength, 1) := by decide +kernel
theorem dX0_separatesAt_19 : decode cX0_separatesAt 19 = .ok (.if_icmp .ge 16, 3) := by decide +kernel
theorem dX0_separatesAt_22 : decode cX0_separatesAt 22 = .ok (.aload_n 0, 1) := by decide +kernel
theorem dX0_separatesAt_23 : decode cX0_separatesAt 23 = .ok (.getfield 18, 3) := by decide +kernel
theorem dX0_separatesAt_26 : decode cX0_separatesAt 26 = .ok (.iload_n 2, 1) := by decide +kernel
theorem dX0_separatesAt_27 : decode cX0_separatesAt 27 = .ok (.baload, 1) := by decide +kernel
theorem dX0_separatesAt_28 : decode cX0_separatesAt 28 = .ok (.ifCond .eq 7, 3) := by decide +kernel
theorem dX0_separatesAt_31 : decode cX0_separatesAt 31 = .ok (.iconst 1, 1) := by decide +kernel
theorem dX0_separatesAt_32 : decode cX0_separatesAt 32 = .ok (.goto 4, 3) := by decide +kernel
theorem dX0_separatesAt_35 : decode cX0_separatesAt 35 = .ok (.iconst 0, 1) := by decide +kernel
theorem dX0_separatesAt_36 : decode cX0_separatesAt 36 = .ok (.ireturn, 1) := by decide +kernel
theorem dX0_tokenStart_0 : decode cX0_tokenStart 0 = .ok (.iload_n 1, 1) := by decide +kernel
theorem dX0_tokenStart_1 : decode cX0_tokenStart 1 = .ok (.istore_n 2, 1) := by decide +kernel
theorem dX0_tokenStart_2 : decode cX0_tokenStart 2 = .ok (.aload_n 0, 1) := by decide +kernel
theorem dX0_tokenStart_3 : decode cX0_tokenStart 3 = .ok (.getfield 38, 3) := by decide +kernel
theorem dX0_tokenStart_6 : decode cX0_tokenStart 6 = .ok (.ifCond .ne 28, 3) := by decide +kernel
theorem dX0_tokenStart_9 : decode cX0_tokenStart 9 = .ok (.iload_n 2, 1) := by decide +kernel
theorem dX0_tokenStart_10 : decode cX0_tokenStart 10 = .ok (.aload_n 0, 1) := by decide +kernel
theorem dX0_tokenStart_11 : decode cX0_tokenStart 11 = .ok (.getfield 12, 3) := by decide +kernel
theorem dX0_tokenStart_14 : decode cX0_tokenStart 14 = .ok (.getfield 26, 3) := by decide +kernel
theorem dX0_tokenStart_17 : decode cX0_tokenStart 17 = .ok (.if_icmp .ge 17, 3) := by decide +kernel
theorem dX0_tokenStart_20 : decode cX0_tokenStart 20 = .ok (.aload_n 0, 1) := by decide +kernel
theorem dX0_tokenStart_21 : decode cX0_tokenStart 21 = .ok (.iload_n 2, 1) := by decide +kernel
theorem dX0_tokenStart_22 : decode cX0_tokenStart 22 = .ok (.invokevirtual 59, 3) := by decide +kernel
theorem dX0_tokenStart_25 : decode cX0_tokenStart 25 = .ok (.ifCond .eq 9, 3) := by decide +kernel
theorem dX0_tokenStart_28 : decode cX0_tokenStart 28 = .ok (.iinc 2 1, 3) := by decide +kernel
theorem dX0_tokenStart_31 : decode cX0_tokenStart 31 = .ok (.goto (-29), 3) := by decide +kernel
theorem dX0_tokenStart_34 : decode cX0_tokenStart 34 = .ok (.iload_n 2, 1) := by decide +kernel
theorem dX0_tokenStart_35 : decode cX0_tokenStart 35 = .ok (.ireturn, 1) := by decide +kernel
theorem dX0_tokenEnd_0 : decode cX0_tokenEnd 0 = .ok (.iload_n 1, 1) := by decide +kernel
theorem dX0_tokenEnd_1 : decode cX0_tokenEnd 1 = .ok (.iconst 1, 1) := by decide +kernel
theorem dX0_tokenEnd_2 : decode cX0_tokenEnd 2 = .ok (.iadd, 1) := by decide +kernel
theorem dX0_tokenEnd_3 : decode cX0_tokenEnd 3 = .ok (.istore_n 2, 1) := by decide +kernel
theorem dX0_tokenEnd_4 : decode cX0_tokenEnd 4 = .ok (.iload_n 2, 1) := by decide +kernel
theorem dX0_tokenEnd_5 : decode cX0_tokenEnd 5 = .ok (.aload_n 0, 1) := by decide +kernel
theorem dX0_tokenEnd_6 : decode cX0_tokenEnd 6 = .ok (.getfield 12, 3) := by decide +kernel
theorem dX0_tokenEnd_9 : decode cX0_tokenEnd 9 = .ok (.getfield 26, 3) := by decide +kernel
theorem dX0_tokenEnd_12 : decode cX0_tokenEnd 12 = .ok (.if_icmp .ge 25, 3) := by decide +kernel
theorem dX0_tokenEnd_15 : decode cX0_tokenEnd 15 = .ok (.aload_n 0, 1) := by decide +kernel
theorem dX0_tokenEnd_16 : decode cX0_tokenEnd 16 = .ok (.iload_n 1, 1) := by decide +kernel
theorem dX0_tokenEnd_17 : decode cX0_tokenEnd 17 = .ok (.invokevirtual 59, 3) := by decide +kernel
theorem dX0_tokenEnd_20 : decode cX0_tokenEnd 20 = .ok (.ifCond .ne 17, 3) := by decide +kernel
theorem dX0_tokenEnd_23 : decode cX0_tokenEnd 23 = .ok (.aload_n 0, 1) := by decide +kernel
theorem dX0_tokenEnd_24 : decode cX0_tokenEnd 24 = .ok (.iload_n 2, 1) := by decide +kernel
theorem dX0_tokenEnd_25 : decode cX0_tokenEnd 25 = .ok (.invokevirtual 59, 3) := by decide +kernel
theorem dX0_tokenEnd_28 : decode cX0_tokenEnd 28 = .ok (.ifCond .ne 9, 3) := by decide +kernel
theorem dX0_tokenEnd_31 : decode cX0_tokenEnd 31 = .ok (.iinc 2 1, 3) := by decide +kernel
theorem dX0_tokenEnd_34 : decode cX0_tokenEnd 34 = .ok (.goto (-30), 3) := by decide +kernel
theorem dX0_tokenEnd_37 : decode cX0_tokenEnd 37 = .ok (.iload_n 2, 1) := by decide +kernel
theorem dX0_tokenEnd_38 : decode cX0_tokenEnd 38 = .ok (.ireturn, 1) := by decide +kernel
theorem dX1_init_0 : decode cX1_init 0 = .ok (.aload_n 0, 1) := by decide +kernel
theorem dX1_init_1 : decode cX1_init 1 = .ok (.invokespecial 3, 3) := by decide +kernel
theorem dX1_init_4 : decode cX1_init 4 = .ok (.aload_n 0, 1) := by decide +kernel
theorem dX1_init_5 : decode cX1_init 5 = .ok (.new 9, 3) := by decide +kernel
theorem dX1_init_8 : decode cX1_init 8 = .ok (.dup, 1) := by decide +kernel
theorem dX1_init_9 : decode cX1_init 9 = .ok (.invokespecial 11, 3) := by decide +kernel
theorem dX1_init_12 : decode cX1_init 12 = .ok (.putfield 12, 3) := by decide +kernel
theorem dX1_init_15 : decode cX1_init 15 = .ok (.aload_n 0, 1) := by decide +kernel
theorem dX1_init_16 : decode cX1_init 16 = .ok (.sipush 201, 3) := by decide +kernel
theorem dX1_init_19 : decode cX1_init 19 = .ok (.newarray .int, 2) := by decide +kernel
theorem dX1_init_21 : decode cX1_init 21 = .ok (.putfield 18, 3) := by decide +kernel
theorem dX1_init_24 : decode cX1_init 24 = .ok (.aload_n 0, 1) := by decide +kernel
theorem dX1_init_25 : decode cX1_init 25 = .ok (.sipush 201, 3) := by decide +kernel
theorem dX1_init_28 : decode cX1_init 28 = .ok (.newarray .int, 2) := by decide +kernel
theorem dX1_init_30 : decode cX1_init 30 = .ok (.putfield 22, 3) := by decide +kernel
theorem dX1_init_33 : decode cX1_init 33 = .ok (.return_, 1) := by decide +kernel
theorem dX1_has_0 : decode cX1_has 0 = .ok (.iload_n 1, 1) := by decide +kernel
theorem dX1_has_1 : decode cX1_has 1 = .ok (.ifCond .lt 15, 3) := by decide +kernel
theorem dX1_has_4 : decode cX1_has 4 = .ok (.iload_n 1, 1) := by decide +kernel
theorem dX1_has_5 : decode cX1_has 5 = .ok (.aload_n 0, 1) := by decide +kernel
theorem dX1_has_6 : decode cX1_has 6 = .ok (.getfield 25, 3) := by decide +kernel
theorem dX1_has_9 : decode cX1_has 9 = .ok (.if_icmp .ge 7, 3) := by decide +kernel
theorem dX1_has_12 : decode cX1_has 12 = .ok (.iconst 1, 1) := by decide +kernel
theorem dX1_has_13 : decode cX1_has 13 = .ok (.goto 4, 3) := by decide +kernel
theorem dX1_has_16 : decode cX1_has 16 = .ok (.iconst 0, 1) := by decide +kernel
theorem dX1_has_17 : decode cX1_has 17 = .ok (.ireturn, 1) := by decide +kernel
theorem dX1_start_0 : decode cX1_start 0 = .ok (.aload_n 0, 1) := by decide +kernel
theorem dX1_start_1 : decode cX1_start 1 = .ok (.iload_n 1, 1) := by decide +kernel
theorem dX1_start_2 : decode cX1_start 2 = .ok (.invokevirtual 29, 3) := by decide +kernel
theorem dX1_start_5 : decode cX1_start 5 = .ok (.ifCond .eq 12, 3) := by decide +kernel
theorem dX1_start_8 : decode cX1_start 8 = .ok (.aload_n 0, 1) := by decide +kernel
theorem dX1_start_9 : decode cX1_start 9 = .ok (.getfield 18, 3) := by decide +kernel
theorem dX1_start_12 : decode cX1_start 12 = .ok (.iload_n 1, 1) := by decide +kernel
theorem dX1_start_13 : decode cX1_start 13 = .ok (.iaload, 1) := by decide +kernel
theorem dX1_start_14 : decode cX1_start 14 = .ok (.goto 4, 3) := by decide +kernel
theorem dX1_start_17 : decode cX1_start 17 = .ok (.iconst 0, 1) := by decide +kernel
theorem dX1_start_18 : decode cX1_start 18 = .ok (.ireturn, 1) := by decide +kernel
theorem dX1_end_0 : decode cX1_end 0 = .ok (.aload_n 0, 1) := by decide +kernel
theorem dX1_end_1 : decode cX1_end 1 = .ok (.iload_n 1, 1) := by decide +kernel
theorem dX1_end_2 : decode cX1_end 2 = .ok (.invokevirtual 29, 3) := by decide +kernel
theorem dX1_end_5 : decode cX1_end 5 = .ok (.ifCond .eq 12, 3) := by decide +kernel
theorem dX1_end_8 : decode cX1_end 8 = .ok (.aload_n 0, 1) := by decide +kernel
theorem dX1_end_9 : decode cX1_end 9 = .ok (.getfield 22, 3) := by decide +kernel
theorem dX1_end_12 : decode cX1_end 12 = .ok (.iload_n 1, 1) := by decide +kernel
theorem dX1_end_13 : decode cX1_end 13 = .ok (.iaload, 1) := by decide +kernel
theorem dX1_end_14 : decode cX1_end 14 = .ok (.goto 4, 3) := by decide +kernel
theorem dX1_end_17 : decode cX1_end 17 = .ok (.iconst 0, 1) := by decide +kernel
theorem dX1_end_18 : decode cX1_end 18 = .ok (.ireturn, 1) := by decide +kernel
theorem dX1_fall_0 : decode cX1_fall 0 = .ok (.aload_n 0, 1) := by decide +kernel
theorem dX1_fall_1 : decode cX1_fall 1 = .ok (.getfield 12, 3) := by decide +kernel
theorem dX1_fall_4 : decode cX1_fall 4 = .ok (.aload_n 1, 1) := by decide +kernel
theorem dX1_fall_5 : decode cX1_fall 5 = .ok (.iconst 0, 1) := by decide +kernel
theorem dX1_fall_6 : decode cX1_fall 6 = .ok (.aload_n 1, 1) := by decide +kernel
theorem dX1_fall_7 : decode cX1_fall 7 = .ok (.getfield 33, 3) := by decide +kernel
theorem dX1_fall_10 : decode cX1_fall 10 = .ok (.invokevirtual 36, 3) := by decide +kernel
theorem dX1_fall_13 : decode cX1_fall 13 = .ok (.pop, 1) := by decide +kernel
theorem dX1_fall_14 : decode cX1_fall 14 = .ok (.aload_n 0, 1) := by decide +kernel
theorem dX1_fall_15 : decode cX1_fall 15 = .ok (.iconst 0, 1) := by decide +kernel
theorem dX1_fall_16 : decode cX1_fall 16 = .ok (.putfield 25, 3) := by decide +kernel
theorem dX1_fall_19 : decode cX1_fall 19 = .ok (.iconst 0, 1) := by decide +kernel
theorem dX1_fall_20 : decode cX1_fall 20 = .ok (.istore 4, 2) := by decide +kernel
theorem dX1_fall_22 : decode cX1_fall 22 = .ok (.iconst 0, 1) := by decide +kernel
theorem dX1_fall_23 : decode cX1_fall 23 = .ok (.istore 5, 2) := by decide +kernel
theorem dX1_fall_25 : decode cX1_fall 25 = .ok (.iload 5, 2) := by decide +kernel
theorem dX1_fall_27 : decode cX1_fall 27 = .ok (.aload_n 0, 1) := by decide +kernel
theorem dX1_fall_28 : decode cX1_fall 28 = .ok (.getfield 12, 3) := by decide +kernel
theorem dX1_fall_31 : decode cX1_fall 31 = .ok (.getfield 33, 3) := by decide +kernel
theorem dX1_fall_34 : decode cX1_fall 34 = .ok (.if_icmp .ge 44, 3) := by decide +kernel
theorem dX1_fall_37 : decode cX1_fall 37 = .ok (.aload_n 0, 1) := by decide +kernel
theorem dX1_fall_38 : decode cX1_fall 38 = .ok (.getfield 12, 3) := by decide +kernel
theorem dX1_fall_41 : decode cX1_fall 41 = .ok (.iload 5, 2) := by decide +kernel
theorem dX1_fall_43 : decode cX1_fall 43 = .ok (.invokevirtual 40, 3) := by decide +kernel
theorem dX1_fall_46 : decode cX1_fall 46 = .ok (.iload_n 2, 1) := by decide +kernel
theorem dX1_fall_47 : decode cX1_fall 47 = .ok (.if_icmp .ne 25, 3) := by decide +kernel
theorem dX1_fall_50 : decode cX1_fall 50 = .ok (.aload_n 0, 1) := by decide +kernel
theorem dX1_fall_51 : decode cX1_fall 51 = .ok (.iload_n 3, 1) := by decide +kernel
theorem dX1_fall_52 : decode cX1_fall 52 = .ok (.invokevirtual 44, 3) := by decide +kernel
theorem dX1_fall_55 : decode cX1_fall 55 = .ok (.ifCond .eq 17, 3) := by decide +kernel
theorem dX1_fall_58 : decode cX1_fall 58 = .ok (.aload_n 0, 1) := by decide +kernel
theorem dX1_fall_59 : decode cX1_fall 59 = .ok (.iload 4, 2) := by decide +kernel
theorem dX1_fall_61 : decode cX1_fall 61 = .ok (.iload 5, 2) := by decide +kernel
theorem dX1_fall_63 : decode cX1_fall 63 = .ok (.invokevirtual 47, 3) := by decide +kernel
theorem dX1_fall_66 : decode cX1_fall 66 = .ok (.iload 5, 2) := by decide +kernel
theorem dX1_fall_68 : decode cX1_fall 68 = .ok (.iconst 1, 1) := by decide +kernel
theorem dX1_fall_69 : decode cX1_fall 69 = .ok (.iadd, 1) := by decide +kernel
theorem dX1_fall_70 : decode cX1_fall 70 = .ok (.istore 4, 2) := by decide +kernel
theorem dX1_fall_72 : decode cX1_fall 72 = .ok (.iinc 5 1, 3) := by decide +kernel
theorem dX1_fall_75 : decode cX1_fall 75 = .ok (.goto (-50), 3) := by decide +kernel
theorem dX1_fall_78 : decode cX1_fall 78 = .ok (.aload_n 0, 1) := by decide +kernel
theorem dX1_fall_79 : decode cX1_fall 79 = .ok (.iload 4, 2) := by decide +kernel
theorem dX1_fall_81 : decode cX1_fall 81 = .ok (.aload_n 0, 1) := by decide +kernel
theorem dX1_fall_82 : decode cX1_fall 82 = .ok (.getfield 12, 3) := by decide +kernel
theorem dX1_fall_85 : decode cX1_fall 85 = .ok (.getfield 33, 3) := by decide +kernel
theorem dX1_fall_88 : decode cX1_fall 88 = .ok (.invokevirtual 47, 3) := by decide +kernel
theorem dX1_fall_91 : decode cX1_fall 91 = .ok (.iload_n 3, 1) := by decide +kernel
theorem dX1_fall_92 : decode cX1_fall 92 = .ok (.ifCond .ne 15, 3) := by decide +kernel
theorem dX1_fall_95 : decode cX1_fall 95 = .ok (.aload_n 0, 1) := by decide +kernel
theorem dX1_fall_96 : decode cX1_fall 96 = .ok (.getfield 25, 3) := by decide +kernel
theorem dX1_fall_99 : decode cX1_fall 99 = .ok (.iconst 1, 1) := by decide +kernel
theorem dX1_fall_100 : decode cX1_fall 100 = .ok (.if_icmp .le 7, 3) := by decide +kernel
theorem dX1_fall_103 : decode cX1_fall 103 = .ok (.aload_n 0, 1) := by decide +kernel
theorem dX1_fall_104 : decode cX1_fall 104 = .ok (.invokevirtual 51, 3) := by decide +kernel
theorem dX1_fall_107 : decode cX1_fall 107 = .ok (.return_, 1) := by decide +kernel
theorem dX1_mayPart_0 : decode cX1_mayPart 0 = .ok (.iload_n 1, 1) := by decide +kernel
theorem dX1_mayPart_1 : decode cX1_mayPart 1 = .ok (.ifCond .le 13, 3) := by decide +kernel
theorem dX1_mayPart_4 : decode cX1_mayPart 4 = .ok (.aload_n 0, 1) := by decide +kernel
theorem dX1_mayPart_5 : decode cX1_mayPart 5 = .ok (.getfield 25, 3) := by decide +kernel
theorem dX1_mayPart_8 : decode cX1_mayPart 8 = .ok (.iload_n 1, 1) := by decide +kernel
theorem dX1_mayPart_9 : decode cX1_mayPart 9 = .ok (.iconst 1, 1) := by decide +kernel
theorem dX1_mayPart_10 : decode cX1_mayPart 10 = .ok (.isub, 1) := by decide +kernel
theorem dX1_mayPart_11 : decode cX1_mayPart 11 = .ok (.if_icmp .ge 7, 3) := by decide +kernel
theorem dX1_mayPart_14 : decode cX1_mayPart 14 = .ok (.iconst 1, 1) := by decide +kernel
theorem dX1_mayPart_15 : decode cX1_mayPart 15 = .ok (.goto 4, 3) := by decide +kernel
theorem dX1_mayPart_18 : decode cX1_mayPart 18 = .ok (.iconst 0, 1) := by decide +kernel
theorem dX1_mayPart_19 : decode cX1_mayPart 19 = .ok (.ireturn, 1) := by decide +kernel
theorem dX1_addPart_0 : decode cX1_addPart 0 = .ok (.aload_n 0, 1) := by decide +kernel
theorem dX1_addPart_1 : decode cX1_addPart 1 = .ok (.getfield 25, 3) := by decide +kernel
theorem dX1_addPart_4 : decode cX1_addPart 4 = .ok (.aload_n 0, 1) := by decide +kernel
theorem dX1_addPart_5 : decode cX1_addPart 5 = .ok (.getfield 18, 3) := by decide +kernel
theorem dX1_addPart_8 : decode cX1_addPart 8 = .ok (.arraylength, 1) := by decide +kernel
theorem dX1_addPart_9 : decode cX1_addPart 9 = .ok (.if_icmp .ge 45, 3) := by decide +kernel
theorem dX1_addPart_12 : decode cX1_addPart 12 = .ok (.aload_n 0, 1) := by decide +kernel
theorem dX1_addPart_13 : decode cX1_addPart 13 = .ok (.getfield 25, 3) := by decide +kernel
theorem dX1_addPart_16 : decode cX1_addPart 16 = .ok (.aload_n 0, 1) := by decide +kernel
theorem dX1_addPart_17 : decode cX1_addPart 17 = .ok (.getfield 22, 3) := by decide +kernel
theorem dX1_addPart_20 : decode cX1_addPart 20 = .ok (.arraylength, 1) := by decide +kernel
theorem dX1_addPart_21 : decode cX1_addPart 21 = .ok (.if_icmp .ge 33, 3) := by decide +kernel
theorem dX1_addPart_24 : decode cX1_addPart 24 = .ok (.aload_n 0, 1) := by decide +kernel
theorem dX1_addPart_25 : decode cX1_addPart 25 = .ok (.getfield 18, 3) := by decide +kernel
theorem dX1_addPart_28 : decode cX1_addPart 28 = .ok (.aload_n 0, 1) := by decide +kernel
theorem dX1_addPart_29 : decode cX1_addPart 29 = .ok (.getfield 25, 3) := by decide +kernel
theorem dX1_addPart_32 : decode cX1_addPart 32 = .ok (.iload_n 1, 1) := by decide +kernel
theorem dX1_addPart_33 : decode cX1_addPart 33 = .ok (.iastore, 1) := by decide +kernel
theorem dX1_addPart_34 : decode cX1_addPart 34 = .ok (.aload_n 0, 1) := by decide +kernel
theorem dX1_addPart_35 : decode cX1_addPart 35 = .ok (.getfield 22, 3) := by decide +kernel
theorem dX1_addPart_38 : decode cX1_addPart 38 = .ok (.aload_n 0, 1) := by decide +kernel
theorem dX1_addPart_39 : decode cX1_addPart 39 = .ok (.getfield 25, 3) := by decide +kernel
theorem dX1_addPart_42 : decode cX1_addPart 42 = .ok (.iload_n 2, 1) := by decide +kernel
theorem dX1_addPart_43 : decode cX1_addPart 43 = .ok (.iastore, 1) := by decide +kernel
theorem dX1_addPart_44 : decode cX1_addPart 44 = .ok (.aload_n 0, 1) := by decide +kernel
theorem dX1_addPart_45 : decode cX1_addPart 45 = .ok (.dup, 1) := by decide +kernel
theorem dX1_addPart_46 : decode cX1_addPart 46 = .ok (.getfield 25, 3) := by decide +kernel
theorem dX1_addPart_49 : decode cX1_addPart 49 = .ok (.iconst 1, 1) := by decide +kernel
theorem dX1_addPart_50 : decode cX1_addPart 50 = .ok (.iadd, 1) := by decide +kernel
theorem dX1_addPart_51 : decode cX1_addPart 51 = .ok (.putfield 25, 3) := by decide +kernel
theorem dX1_addPart_54 : decode cX1_addPart 54 = .ok (.return_, 1) := by decide +kernel
theorem dX1_dropEmptyEnd_0 : decode cX1_dropEmptyEnd 0 = .ok (.aload_n 0, 1) := by decide +kernel
theorem dX1_dropEmptyEnd_1 : decode cX1_dropEmptyEnd 1 = .ok (.getfield 25, 3) := by decide +kernel
theorem dX1_dropEmptyEnd_4 : decode cX1_dropEmptyEnd 4 = .ok (.iconst 1, 1) := by decide +kernel
theorem dX1_dropEmptyEnd_5 : decode cX1_dropEmptyEnd 5 = .ok (.isub, 1) := by decide +kernel
theorem dX1_dropEmptyEnd_6 : decode cX1_dropEmptyEnd 6 = .ok (.istore_n 1, 1) := by decide +kernel
theorem dX1_dropEmptyEnd_7 : decode cX1_dropEmptyEnd 7 = .ok (.iload_n 1, 1) := by decide +kernel
theorem dX1_dropEmptyEnd_8 : decode cX1_dropEmptyEnd 8 = .ok (.ifCond .lt 27, 3) := by decide +kernel
theorem dX1_dropEmptyEnd_11 : decode cX1_dropEmptyEnd 11 = .ok (.aload_n 0, 1) := by decide +kernel
theorem dX1_dropEmptyEnd_12 : decode cX1_dropEmptyEnd 12 = .ok (.iload_n 1, 1) := by decide +kernel
theorem dX1_dropEmptyEnd_13 : decode cX1_dropEmptyEnd 13 = .ok (.invokevirtual 54, 3) := by decide +kernel
theorem dX1_dropEmptyEnd_16 : decode cX1_dropEmptyEnd 16 = .ok (.aload_n 0, 1) := by decide +kernel
theorem dX1_dropEmptyEnd_17 : decode cX1_dropEmptyEnd 17 = .ok (.iload_n 1, 1) := by decide +kernel
theorem dX1_dropEmptyEnd_18 : decode cX1_dropEmptyEnd 18 = .ok (.invokevirtual 57, 3) := by decide +kernel
theorem dX1_dropEmptyEnd_21 : decode cX1_dropEmptyEnd 21 = .ok (.if_icmp .ne 14, 3) := by decide +kernel
theorem dX1_dropEmptyEnd_24 : decode cX1_dropEmptyEnd 24 = .ok (.aload_n 0, 1) := by decide +kernel
theorem dX1_dropEmptyEnd_25 : decode cX1_dropEmptyEnd 25 = .ok (.iload_n 1, 1) := by decide +kernel
theorem dX1_dropEmptyEnd_26 : decode cX1_dropEmptyEnd 26 = .ok (.putfield 25, 3) := by decide +kernel
theorem dX1_dropEmptyEnd_29 : decode cX1_dropEmptyEnd 29 = .ok (.iinc 1 (-1), 3) := by decide +kernel
theorem dX1_dropEmptyEnd_32 : decode cX1_dropEmptyEnd 32 = .ok (.goto (-25), 3) := by decide +kernel
theorem dX1_dropEmptyEnd_35 : decode cX1_dropEmptyEnd 35 = .ok (.return_, 1) := by decide +kernel
theorem dX2_init_0 : decode cX2_init 0 = .ok (.aload_n 0, 1) := by decide +kernel
theorem dX2_init_1 : decode cX2_init 1 = .ok (.invokespecial 3, 3) := by decide +kernel
theorem dX2_init_4 : decode cX2_init 4 = .ok (.aload_n 0, 1) := by decide +kernel
theorem dX2_init_5 : decode cX2_init 5 = .ok (.sipush 200, 3) := by decide +kernel
theorem dX2_init_8 : decode cX2_init 8 = .ok (.newarray .int, 2) := by decide +kernel
theorem dX2_init_10 : decode cX2_init 10 = .ok (.putfield 9, 3) := by decide +kernel
theorem dX2_init_13 : decode cX2_init 13 = .ok (.return_, 1) := by decide +kernel
theorem dX2_holds_0 : decode cX2_holds 0 = .ok (.iload_n 1, 1) := by decide +kernel
theorem dX2_holds_1 : decode cX2_holds 1 = .ok (.ifCond .lt 15, 3) := by decide +kernel
theorem dX2_holds_4 : decode cX2_holds 4 = .ok (.iload_n 1, 1) := by decide +kernel
theorem dX2_holds_5 : decode cX2_holds 5 = .ok (.aload_n 0, 1) := by decide +kernel
theorem dX2_holds_6 : decode cX2_holds 6 = .ok (.getfield 15, 3) := by decide +kernel
theorem dX2_holds_9 : decode cX2_holds 9 = .ok (.if_icmp .ge 7, 3) := by decide +kernel
theorem dX2_holds_12 : decode cX2_holds 12 = .ok (.iconst 1, 1) := by decide +kernel
theorem dX2_holds_13 : decode cX2_holds 13 = .ok (.goto 4, 3) := by decide +kernel
theorem dX2_holds_16 : decode cX2_holds 16 = .ok (.iconst 0, 1) := by decide +kernel
theorem dX2_holds_17 : decode cX2_holds 17 = .ok (.ireturn, 1) := by decide +kernel
theorem dX2_spans_0 : decode cX2_spans 0 = .ok (.iload_n 1, 1) := by decide +kernel
theorem dX2_spans_1 : decode cX2_spans 1 = .ok (.ifCond .lt 20, 3) := by decide +kernel
theorem dX2_spans_4 : decode cX2_spans 4 = .ok (.iload_n 1, 1) := by decide +kernel
theorem dX2_spans_5 : decode cX2_spans 5 = .ok (.iload_n 2, 1) := by decide +kernel
theorem dX2_spans_6 : decode cX2_spans 6 = .ok (.if_icmp .gt 15, 3) := by decide +kernel
theorem dX2_spans_9 : decode cX2_spans 9 = .ok (.iload_n 2, 1) := by decide +kernel
theorem dX2_spans_10 : decode cX2_spans 10 = .ok (.aload_n 0, 1) := by decide +kernel
theorem dX2_spans_11 : decode cX2_spans 11 = .ok (.getfield 15, 3) := by decide +kernel
theorem dX2_spans_14 : decode cX2_spans 14 = .ok (.if_icmp .gt 7, 3) := by decide +kernel
theorem dX2_spans_17 : decode cX2_spans 17 = .ok (.iconst 1, 1) := by decide +kernel
theorem dX2_spans_18 : decode cX2_spans 18 = .ok (.goto 4, 3) := by decide +kernel
theorem dX2_spans_21 : decode cX2_spans 21 = .ok (.iconst 0, 1) := by decide +kernel
theorem dX2_spans_22 : decode cX2_spans 22 = .ok (.ireturn, 1) := by decide +kernel
theorem dX2_signThere_0 : decode cX2_signThere 0 = .ok (.aload_n 0, 1) := by decide +kernel
theorem dX2_signThere_1 : decode cX2_signThere 1 = .ok (.iload_n 1, 1) := by decide +kernel
theorem dX2_signThere_2 : decode cX2_signThere 2 = .ok (.invokevirtual 19, 3) := by decide +kernel
theorem dX2_signThere_5 : decode cX2_signThere 5 = .ok (.ifCond .eq 12, 3) := by decide +kernel
theorem dX2_signThere_8 : decode cX2_signThere 8 = .ok (.aload_n 0, 1) := by decide +kernel
theorem dX2_signThere_9 : decode cX2_signThere 9 = .ok (.getfield 9, 3) := by decide +kernel
theorem dX2_signThere_12 : decode cX2_signThere 12 = .ok (.iload_n 1, 1) := by decide +kernel
theorem dX2_signThere_13 : decode cX2_signThere 13 = .ok (.iaload, 1) := by decide +kernel
theorem dX2_signThere_14 : decode cX2_signThere 14 = .ok (.goto 4, 3) := by decide +kernel
theorem dX2_signThere_17 : decode cX2_signThere 17 = .ok (.iconst (-1), 1) := by decide +kernel
theorem dX2_signThere_18 : decode cX2_signThere 18 = .ok (.ireturn, 1) := by decide +kernel
theorem dX2_write_0 : decode cX2_write 0 = .ok (.aload_n 0, 1) := by decide +kernel
theorem dX2_write_1 : decode cX2_write 1 = .ok (.iload_n 1, 1) := by decide +kernel
theorem dX2_write_2 : decode cX2_write 2 = .ok (.invokevirtual 19, 3) := by decide +kernel
theorem dX2_write_5 : decode cX2_write 5 = .ok (.ifCond .eq 10, 3) := by decide +kernel
theorem dX2_write_8 : decode cX2_write 8 = .ok (.aload_n 0, 1) := by decide +kernel
theorem dX2_write_9 : decode cX2_write 9 = .ok (.getfield 9, 3) := by decide +kernel
theorem dX2_write_12 : decode cX2_write 12 = .ok (.iload_n 1, 1) := by decide +kernel
theorem dX2_write_13 : decode cX2_write 13 = .ok (.iload_n 2, 1) := by decide +kernel
theorem dX2_write_14 : decode cX2_write 14 = .ok (.iastore, 1) := by decide +kernel
theorem dX2_write_15 : decode cX2_write 15 = .ok (.return_, 1) := by decide +kernel
theorem dX2_writeEach_0 : decode cX2_writeEach 0 = .ok (.iconst 0, 1) := by decide +kernel
theorem dX2_writeEach_1 : decode cX2_writeEach 1 = .ok (.istore_n 3, 1) := by decide +kernel
theorem dX2_writeEach_2 : decode cX2_writeEach 2 = .ok (.iload_n 3, 1) := by decide +kernel
theorem dX2_writeEach_3 : decode cX2_writeEach 3 = .ok (.aload_n 0, 1) := by decide +kernel
theorem dX2_writeEach_4 : decode cX2_writeEach 4 = .ok (.getfield 15, 3) := by decide +kernel
theorem dX2_writeEach_7 : decode cX2_writeEach 7 = .ok (.if_icmp .ge 24, 3) := by decide +kernel
theorem dX2_writeEach_10 : decode cX2_writeEach 10 = .ok (.aload_n 0, 1) := by decide +kernel
theorem dX2_writeEach_11 : decode cX2_writeEach 11 = .ok (.iload_n 3, 1) := by decide +kernel
theorem dX2_writeEach_12 : decode cX2_writeEach 12 = .ok (.invokevirtual 23, 3) := by decide +kernel
theorem dX2_writeEach_15 : decode cX2_writeEach 15 = .ok (.iload_n 1, 1) := by decide +kernel
theorem dX2_writeEach_16 : decode cX2_writeEach 16 = .ok (.if_icmp .ne 9, 3) := by decide +kernel
theorem dX2_writeEach_19 : decode cX2_writeEach 19 = .ok (.aload_n 0, 1) := by decide +kernel
theorem dX2_writeEach_20 : decode cX2_writeEach 20 = .ok (.iload_n 3, 1) := by decide +kernel
theorem dX2_writeEach_21 : decode cX2_writeEach 21 = .ok (.iload_n 2, 1) := by decide +kernel
theorem dX2_writeEach_22 : decode cX2_writeEach 22 = .ok (.invokevirtual 27, 3) := by decide +kernel
theorem dX2_writeEach_25 : decode cX2_writeEach 25 = .ok (.iinc 3 1, 3) := by decide +kernel
theorem dX2_writeEach_28 : decode cX2_writeEach 28 = .ok (.goto (-26), 3) := by decide +kernel
theorem dX2_writeEach_31 : decode cX2_writeEach 31 = .ok (.return_, 1) := by decide +kernel
theorem dX2_clear_0 : decode cX2_clear 0 = .ok (.aload_n 0, 1) := by decide +kernel
theorem dX2_clear_1 : decode cX2_clear 1 = .ok (.iconst 0, 1) := by decide +kernel
theorem dX2_clear_2 : decode cX2_clear 2 = .ok (.putfield 15, 3) := by decide +kernel
theorem dX2_clear_5 : decode cX2_clear 5 = .ok (.return_, 1) := by decide +kernel
theorem dX2_add_0 : decode cX2_add 0 = .ok (.aload_n 0, 1) := by decide +kernel
theorem dX2_add_1 : decode cX2_add 1 = .ok (.getfield 15, 3) := by decide +kernel
theorem dX2_add_4 : decode cX2_add 4 = .ok (.aload_n 0, 1) := by decide +kernel
theorem dX2_add_5 : decode cX2_add 5 = .ok (.getfield 9, 3) := by decide +kernel
theorem dX2_add_8 : decode cX2_add 8 = .ok (.arraylength, 1) := by decide +kernel
theorem dX2_add_9 : decode cX2_add 9 = .ok (.if_icmp .ge 23, 3) := by decide +kernel
theorem dX2_add_12 : decode cX2_add 12 = .ok (.aload_n 0, 1) := by decide +kernel
theorem dX2_add_13 : decode cX2_add 13 = .ok (.getfield 9, 3) := by decide +kernel
theorem dX2_add_16 : decode cX2_add 16 = .ok (.aload_n 0, 1) := by decide +kernel
theorem dX2_add_17 : decode cX2_add 17 = .ok (.getfield 15, 3) := by decide +kernel
theorem dX2_add_20 : decode cX2_add 20 = .ok (.iload_n 1, 1) := by decide +kernel
theorem dX2_add_21 : decode cX2_add 21 = .ok (.iastore, 1) := by decide +kernel
theorem dX2_add_22 : decode cX2_add 22 = .ok (.aload_n 0, 1) := by decide +kernel
theorem dX2_add_23 : decode cX2_add 23 = .ok (.dup, 1) := by decide +kernel
theorem dX2_add_24 : decode cX2_add 24 = .ok (.getfield 15, 3) := by decide +kernel
theorem dX2_add_27 : decode cX2_add 27 = .ok (.iconst 1, 1) := by decide +kernel
theorem dX2_add_28 : decode cX2_add 28 = .ok (.iadd, 1) := by decide +kernel
theorem dX2_add_29 : decode cX2_add 29 = .ok (.putfield 15, 3) := by decide +kernel
theorem dX2_add_32 : decode cX2_add 32 = .ok (.return_, 1) := by decide +kernel
theorem dX2_resize_0 : decode cX2_resize 0 = .ok (.aload_n 0, 1) := by decide +kernel
theorem dX2_resize_1 : decode cX2_resize 1 = .ok (.getfield 15, 3) := by decide +kernel
theorem dX2_resize_4 : decode cX2_resize 4 = .ok (.istore_n 2, 1) := by decide +kernel
theorem dX2_resize_5 : decode cX2_resize 5 = .ok (.iload_n 2, 1) := by decide +kernel
theorem dX2_resize_6 : decode cX2_resize 6 = .ok (.iload_n 1, 1) := by decide +kernel
theorem dX2_resize_7 : decode cX2_resize 7 = .ok (.if_icmp .ge 14, 3) := by decide +kernel
theorem dX2_resize_10 : decode cX2_resize 10 = .ok (.aload_n 0, 1) := by decide +kernel
theorem dX2_resize_11 : decode cX2_resize 11 = .ok (.iconst 0, 1) := by decide +kernel
theorem dX2_resize_12 : decode cX2_resize 12 = .ok (.invokevirtual 31, 3) := by decide +kernel
theorem dX2_resize_15 : decode cX2_resize 15 = .ok (.iinc 2 1, 3) := by decide +kernel
theorem dX2_resize_18 : decode cX2_resize 18 = .ok (.goto (-13), 3) := by decide +kernel
theorem dX2_resize_21 : decode cX2_resize 21 = .ok (.iload_n 1, 1) := by decide +kernel
theorem dX2_resize_22 : decode cX2_resize 22 = .ok (.ifCond .lt 16, 3) := by decide +kernel
theorem dX2_resize_25 : decode cX2_resize 25 = .ok (.iload_n 1, 1) := by decide +kernel
theorem dX2_resize_26 : decode cX2_resize 26 = .ok (.aload_n 0, 1) := by decide +kernel
theorem dX2_resize_27 : decode cX2_resize 27 = .ok (.getfield 15, 3) := by decide +kernel
theorem dX2_resize_30 : decode cX2_resize 30 = .ok (.if_icmp .ge 8, 3) := by decide +kernel
theorem dX2_resize_33 : decode cX2_resize 33 = .ok (.aload_n 0, 1) := by decide +kernel
theorem dX2_resize_34 : decode cX2_resize 34 = .ok (.iload_n 1, 1) := by decide +kernel
theorem dX2_resize_35 : decode cX2_resize 35 = .ok (.putfield 15, 3) := by decide +kernel
theorem dX2_resize_38 : decode cX2_resize 38 = .ok (.return_, 1) := by decide +kernel
theorem dX2_copy_0 : decode cX2_copy 0 = .ok (.aload_n 1, 1) := by decide +kernel
theorem dX2_copy_1 : decode cX2_copy 1 = .ok (.iload_n 2, 1) := by decide +kernel
theorem dX2_copy_2 : decode cX2_copy 2 = .ok (.iload_n 3, 1) := by decide +kernel
theorem dX2_copy_3 : decode cX2_copy 3 = .ok (.invokevirtual 35, 3) := by decide +kernel
theorem dX2_copy_6 : decode cX2_copy 6 = .ok (.ifCond .ne 7, 3) := by decide +kernel
theorem dX2_copy_9 : decode cX2_copy 9 = .ok (.sipush (-1005), 3) := by decide +kernel
theorem dX2_copy_12 : decode cX2_copy 12 = .ok (.ireturn, 1) := by decide +kernel
theorem dX2_copy_13 : decode cX2_copy 13 = .ok (.aload_n 1, 1) := by decide +kernel
theorem dX2_copy_14 : decode cX2_copy 14 = .ok (.getfield 9, 3) := by decide +kernel
theorem dX2_copy_17 : decode cX2_copy 17 = .ok (.iload_n 2, 1) := by decide +kernel
theorem dX2_copy_18 : decode cX2_copy 18 = .ok (.aload_n 0, 1) := by decide +kernel
theorem dX2_copy_19 : decode cX2_copy 19 = .ok (.getfield 9, 3) := by decide +kernel
theorem dX2_copy_22 : decode cX2_copy 22 = .ok (.iconst 0, 1) := by decide +kernel
theorem dX2_copy_23 : decode cX2_copy 23 = .ok (.iload_n 3, 1) := by decide +kernel
theorem dX2_copy_24 : decode cX2_copy 24 = .ok (.iload_n 2, 1) := by decide +kernel
theorem dX2_copy_25 : decode cX2_copy 25 = .ok (.isub, 1) := by decide +kernel
theorem dX2_copy_26 : decode cX2_copy 26 = .ok (.invokestatic 39, 3) := by decide +kernel
theorem dX2_copy_29 : decode cX2_copy 29 = .ok (.aload_n 0, 1) := by decide +kernel
theorem dX2_copy_30 : decode cX2_copy 30 = .ok (.iload_n 3, 1) := by decide +kernel
theorem dX2_copy_31 : decode cX2_copy 31 = .ok (.iload_n 2, 1) := by decide +kernel
theorem dX2_copy_32 : decode cX2_copy 32 = .ok (.isub, 1) := by decide +kernel
theorem dX2_copy_33 : decode cX2_copy 33 = .ok (.putfield 15, 3) := by decide +kernel
theorem dX2_copy_36 : decode cX2_copy 36 = .ok (.aload_n 0, 1) := by decide +kernel
theorem dX2_copy_37 : decode cX2_copy 37 = .ok (.getfield 15, 3) := by decide +kernel
theorem dX2_copy_40 : decode cX2_copy 40 = .ok (.ireturn, 1) := by decide +kernel
theorem dX2_joinIn_0 : decode cX2_joinIn 0 = .ok (.aload_n 0, 1) := by decide +kernel
theorem dX2_joinIn_1 : decode cX2_joinIn 1 = .ok (.iload_n 1, 1) := by decide +kernel
theorem dX2_joinIn_2 : decode cX2_joinIn 2 = .ok (.iload_n 1, 1) := by decide +kernel
theorem dX2_joinIn_3 : decode cX2_joinIn 3 = .ok (.aload_n 2, 1) := by decide +kernel
theorem dX2_joinIn_4 : decode cX2_joinIn 4 = .ok (.iconst 0, 1) := by decide +kernel
theorem dX2_joinIn_5 : decode cX2_joinIn 5 = .ok (.aload_n 2, 1) := by decide +kernel
theorem dX2_joinIn_6 : decode cX2_joinIn 6 = .ok (.getfield 15, 3) := by decide +kernel
theorem dX2_joinIn_9 : decode cX2_joinIn 9 = .ok (.invokevirtual 45, 3) := by decide +kernel
theorem dX2_joinIn_12 : decode cX2_joinIn 12 = .ok (.ireturn, 1) := by decide +kernel
theorem dX2_exchange_0 : decode cX2_exchange 0 = .ok (.aload_n 0, 1) := by decide +kernel
theorem dX2_exchange_1 : decode cX2_exchange 1 = .ok (.iload_n 1, 1) := by decide +kernel
theorem dX2_exchange_2 : decode cX2_exchange 2 = .ok (.iload_n 2, 1) := by decide +kernel
theorem dX2_exchange_3 : decode cX2_exchange 3 = .ok (.aload_n 0, 1) := by decide +kernel
theorem dX2_exchange_4 : decode cX2_exchange 4 = .ok (.getfield 15, 3) := by decide +kernel
theorem dX2_exchange_7 : decode cX2_exchange 7 = .ok (.invokestatic 49, 3) := by decide +kernel
theorem dX2_exchange_10 : decode cX2_exchange 10 = .ok (.aload_n 3, 1) := by decide +kernel
theorem dX2_exchange_11 : decode cX2_exchange 11 = .ok (.iconst 0, 1) := by decide +kernel
theorem dX2_exchange_12 : decode cX2_exchange 12 = .ok (.aload_n 3, 1) := by decide +kernel
theorem dX2_exchange_13 : decode cX2_exchange 13 = .ok (.getfield 15, 3) := by decide +kernel
theorem dX2_exchange_16 : decode cX2_exchange 16 = .ok (.invokevirtual 45, 3) := by decide +kernel
theorem dX2_exchange_19 : decode cX2_exchange 19 = .ok (.ireturn, 1) := by decide +kernel
theorem dX2_change_0 : decode cX2_change 0 = .ok (.aload_n 0, 1) := by decide +kernel
theorem dX2_change_1 : decode cX2_change 1 = .ok (.iload_n 1, 1) := by decide +kernel
theorem dX2_change_2 : decode cX2_change 2 = .ok (.iload_n 2, 1) := by decide +kernel
theorem dX2_change_3 : decode cX2_change 3 = .ok (.invokevirtual 35, 3) := by decide +kernel
theorem dX2_change_6 : decode cX2_change 6 = .ok (.ifCond .eq 14, 3) := by decide +kernel
theorem dX2_change_9 : decode cX2_change 9 = .ok (.aload_n 3, 1) := by decide +kernel
theorem dX2_change_10 : decode cX2_change 10 = .ok (.iload 4, 2) := by decide +kernel
theorem dX2_change_12 : decode cX2_change 12 = .ok (.iload 5, 2) := by decide +kernel
theorem dX2_change_14 : decode cX2_change 14 = .ok (.invokevirtual 35, 3) := by decide +kernel
theorem dX2_change_17 : decode cX2_change 17 = .ok (.ifCond .ne 7, 3) := by decide +kernel
theorem dX2_change_20 : decode cX2_change 20 = .ok (.sipush (-1005), 3) := by decide +kernel
theorem dX2_change_23 : decode cX2_change 23 = .ok (.ireturn, 1) := by decide +kernel
theorem dX2_change_24 : decode cX2_change 24 = .ok (.iload 5, 2) := by decide +kernel
theorem dX2_change_26 : decode cX2_change 26 = .ok (.iload 4, 2) := by decide +kernel
theorem dX2_change_28 : decode cX2_change 28 = .ok (.isub, 1) := by decide +kernel
theorem dX2_change_29 : decode cX2_change 29 = .ok (.istore 6, 2) := by decide +kernel
theorem dX2_change_31 : decode cX2_change 31 = .ok (.aload_n 0, 1) := by decide +kernel
theorem dX2_change_32 : decode cX2_change 32 = .ok (.getfield 15, 3) := by decide +kernel
theorem dX2_change_35 : decode cX2_change 35 = .ok (.iload_n 2, 1) := by decide +kernel
theorem dX2_change_36 : decode cX2_change 36 = .ok (.iload_n 1, 1) := by decide +kernel
theorem dX2_change_37 : decode cX2_change 37 = .ok (.isub, 1) := by decide +kernel
theorem dX2_change_38 : decode cX2_change 38 = .ok (.isub, 1) := by decide +kernel
theorem dX2_change_39 : decode cX2_change 39 = .ok (.iload 6, 2) := by decide +kernel
theorem dX2_change_41 : decode cX2_change 41 = .ok (.iadd, 1) := by decide +kernel
theorem dX2_change_42 : decode cX2_change 42 = .ok (.istore 7, 2) := by decide +kernel
theorem dX2_change_44 : decode cX2_change 44 = .ok (.iload 7, 2) := by decide +kernel
theorem dX2_change_46 : decode cX2_change 46 = .ok (.aload_n 0, 1) := by decide +kernel
theorem dX2_change_47 : decode cX2_change 47 = .ok (.getfield 9, 3) := by decide +kernel
theorem dX2_change_50 : decode cX2_change 50 = .ok (.arraylength, 1) := by decide +kernel
theorem dX2_change_51 : decode cX2_change 51 = .ok (.if_icmp .le 7, 3) := by decide +kernel
theorem dX2_change_54 : decode cX2_change 54 = .ok (.sipush (-1007), 3) := by decide +kernel
theorem dX2_change_57 : decode cX2_change 57 = .ok (.ireturn, 1) := by decide +kernel
theorem dX2_change_58 : decode cX2_change 58 = .ok (.aload_n 0, 1) := by decide +kernel
theorem dX2_change_59 : decode cX2_change 59 = .ok (.getfield 9, 3) := by decide +kernel
theorem dX2_change_62 : decode cX2_change 62 = .ok (.iload_n 2, 1) := by decide +kernel
theorem dX2_change_63 : decode cX2_change 63 = .ok (.aload_n 0, 1) := by decide +kernel
theorem dX2_change_64 : decode cX2_change 64 = .ok (.getfield 9, 3) := by decide +kernel
theorem dX2_change_67 : decode cX2_change 67 = .ok (.iload_n 1, 1) := by decide +kernel
theorem dX2_change_68 : decode cX2_change 68 = .ok (.iload 6, 2) := by decide +kernel
theorem dX2_change_70 : decode cX2_change 70 = .ok (.iadd, 1) := by decide +kernel
theorem dX2_change_71 : decode cX2_change 71 = .ok (.aload_n 0, 1) := by decide +kernel
theorem dX2_change_72 : decode cX2_change 72 = .ok (.getfield 15, 3) := by decide +kernel
theorem dX2_change_75 : decode cX2_change 75 = .ok (.iload_n 2, 1) := by decide +kernel
theorem dX2_change_76 : decode cX2_change 76 = .ok (.isub, 1) := by decide +kernel
theorem dX2_change_77 : decode cX2_change 77 = .ok (.invokestatic 39, 3) := by decide +kernel
theorem dX2_change_80 : decode cX2_change 80 = .ok (.aload_n 3, 1) := by decide +kernel
theorem dX2_change_81 : decode cX2_change 81 = .ok (.getfield 9, 3) := by decide +kernel
theorem dX2_change_84 : decode cX2_change 84 = .ok (.iload 4, 2) := by decide +kernel
theorem dX2_change_86 : decode cX2_change 86 = .ok (.aload_n 0, 1) := by decide +kernel
theorem dX2_change_87 : decode cX2_change 87 = .ok (.getfield 9, 3) := by decide +kernel
theorem dX2_change_90 : decode cX2_change 90 = .ok (.iload_n 1, 1) := by decide +kernel
theorem dX2_change_91 : decode cX2_change 91 = .ok (.iload 6, 2) := by decide +kernel
theorem dX2_change_93 : decode cX2_change 93 = .ok (.invokestatic 39, 3) := by decide +kernel
theorem dX2_change_96 : decode cX2_change 96 = .ok (.aload_n 0, 1) := by decide +kernel
theorem dX2_change_97 : decode cX2_change 97 = .ok (.iload 7, 2) := by decide +kernel
theorem dX2_change_99 : decode cX2_change 99 = .ok (.putfield 15, 3) := by decide +kernel
theorem dX2_change_102 : decode cX2_change 102 = .ok (.aload_n 0, 1) := by decide +kernel
theorem dX2_change_103 : decode cX2_change 103 = .ok (.getfield 15, 3) := by decide +kernel
theorem dX2_change_106 : decode cX2_change 106 = .ok (.ireturn, 1) := by decide +kernel
theorem dX2_turnRound_0 : decode cX2_turnRound 0 = .ok (.iconst 0, 1) := by decide +kernel
theorem dX2_turnRound_1 : decode cX2_turnRound 1 = .ok (.istore_n 1, 1) := by decide +kernel
theorem dX2_turnRound_2 : decode cX2_turnRound 2 = .ok (.aload_n 0, 1) := by decide +kernel
theorem dX2_turnRound_3 : decode cX2_turnRound 3 = .ok (.getfield 15, 3) := by decide +kernel
theorem dX2_turnRound_6 : decode cX2_turnRound 6 = .ok (.iconst 1, 1) := by decide +kernel
theorem dX2_turnRound_7 : decode cX2_turnRound 7 = .ok (.isub, 1) := by decide +kernel
theorem dX2_turnRound_8 : decode cX2_turnRound 8 = .ok (.istore_n 2, 1) := by decide +kernel
theorem dX2_turnRound_9 : decode cX2_turnRound 9 = .ok (.iload_n 1, 1) := by decide +kernel
theorem dX2_turnRound_10 : decode cX2_turnRound 10 = .ok (.iload_n 2, 1) := by decide +kernel
theorem dX2_turnRound_11 : decode cX2_turnRound 11 = .ok (.if_icmp .ge 34, 3) := by decide +kernel
theorem dX2_turnRound_14 : decode cX2_turnRound 14 = .ok (.aload_n 0, 1) := by decide +kernel
theorem dX2_turnRound_15 : decode cX2_turnRound 15 = .ok (.iload_n 1, 1) := by decide +kernel
theorem dX2_turnRound_16 : decode cX2_turnRound 16 = .ok (.invokevirtual 23, 3) := by decide +kernel
theorem dX2_turnRound_19 : decode cX2_turnRound 19 = .ok (.istore_n 3, 1) := by decide +kernel
theorem dX2_turnRound_20 : decode cX2_turnRound 20 = .ok (.aload_n 0, 1) := by decide +kernel
theorem dX2_turnRound_21 : decode cX2_turnRound 21 = .ok (.iload_n 1, 1) := by decide +kernel
theorem dX2_turnRound_22 : decode cX2_turnRound 22 = .ok (.aload_n 0, 1) := by decide +kernel
theorem dX2_turnRound_23 : decode cX2_turnRound 23 = .ok (.iload_n 2, 1) := by decide +kernel
theorem dX2_turnRound_24 : decode cX2_turnRound 24 = .ok (.invokevirtual 23, 3) := by decide +kernel
theorem dX2_turnRound_27 : decode cX2_turnRound 27 = .ok (.invokevirtual 27, 3) := by decide +kernel
theorem dX2_turnRound_30 : decode cX2_turnRound 30 = .ok (.aload_n 0, 1) := by decide +kernel
theorem dX2_turnRound_31 : decode cX2_turnRound 31 = .ok (.iload_n 2, 1) := by decide +kernel
theorem dX2_turnRound_32 : decode cX2_turnRound 32 = .ok (.iload_n 3, 1) := by decide +kernel
theorem dX2_turnRound_33 : decode cX2_turnRound 33 = .ok (.invokevirtual 27, 3) := by decide +kernel
theorem dX2_turnRound_36 : decode cX2_turnRound 36 = .ok (.iinc 1 1, 3) := by decide +kernel
theorem dX2_turnRound_39 : decode cX2_turnRound 39 = .ok (.iinc 2 (-1), 3) := by decide +kernel
theorem dX2_turnRound_42 : decode cX2_turnRound 42 = .ok (.goto (-33), 3) := by decide +kernel
theorem dX2_turnRound_45 : decode cX2_turnRound 45 = .ok (.return_, 1) := by decide +kernel
theorem dX2_hasStanding_0 : decode cX2_hasStanding 0 = .ok (.aload_n 0, 1) := by decide +kernel
theorem dX2_hasStanding_1 : decode cX2_hasStanding 1 = .ok (.iload_n 2, 1) := by decide +kernel
theorem dX2_hasStanding_2 : decode cX2_hasStanding 2 = .ok (.aload_n 1, 1) := by decide +kernel
theorem dX2_hasStanding_3 : decode cX2_hasStanding 3 = .ok (.iconst 0, 1) := by decide +kernel
theorem dX2_hasStanding_4 : decode cX2_hasStanding 4 = .ok (.aload_n 1, 1) := by decide +kernel
theorem dX2_hasStanding_5 : decode cX2_hasStanding 5 = .ok (.getfield 15, 3) := by decide +kernel
theorem dX2_hasStanding_8 : decode cX2_hasStanding 8 = .ok (.invokevirtual 55, 3) := by decide +kernel
theorem dX2_hasStanding_11 : decode cX2_hasStanding 11 = .ok (.ireturn, 1) := by decide +kernel
theorem dX2_sameRegion_0 : decode cX2_sameRegion 0 = .ok (.iload_n 1, 1) := by decide +kernel
theorem dX2_sameRegion_1 : decode cX2_sameRegion 1 = .ok (.ifCond .lt 37, 3) := by decide +kernel
theorem dX2_sameRegion_4 : decode cX2_sameRegion 4 = .ok (.iload_n 3, 1) := by decide +kernel
theorem dX2_sameRegion_5 : decode cX2_sameRegion 5 = .ok (.ifCond .lt 33, 3) := by decide +kernel
theorem dX2_sameRegion_8 : decode cX2_sameRegion 8 = .ok (.iload_n 1, 1) := by decide +kernel
theorem dX2_sameRegion_9 : decode cX2_sameRegion 9 = .ok (.i2l, 1) := by decide +kernel
theorem dX2_sameRegion_10 : decode cX2_sameRegion 10 = .ok (.iload 4, 2) := by decide +kernel
theorem dX2_sameRegion_12 : decode cX2_sameRegion 12 = .ok (.i2l, 1) := by decide +kernel
theorem dX2_sameRegion_13 : decode cX2_sameRegion 13 = .ok (.ladd, 1) := by decide +kernel
theorem dX2_sameRegion_14 : decode cX2_sameRegion 14 = .ok (.aload_n 0, 1) := by decide +kernel
theorem dX2_sameRegion_15 : decode cX2_sameRegion 15 = .ok (.getfield 15, 3) := by decide +kernel
theorem dX2_sameRegion_18 : decode cX2_sameRegion 18 = .ok (.i2l, 1) := by decide +kernel
theorem dX2_sameRegion_19 : decode cX2_sameRegion 19 = .ok (.lcmp, 1) := by decide +kernel
theorem dX2_sameRegion_20 : decode cX2_sameRegion 20 = .ok (.ifCond .gt 18, 3) := by decide +kernel
theorem dX2_sameRegion_23 : decode cX2_sameRegion 23 = .ok (.iload_n 3, 1) := by decide +kernel
theorem dX2_sameRegion_24 : decode cX2_sameRegion 24 = .ok (.i2l, 1) := by decide +kernel
theorem dX2_sameRegion_25 : decode cX2_sameRegion 25 = .ok (.iload 4, 2) := by decide +kernel
theorem dX2_sameRegion_27 : decode cX2_sameRegion 27 = .ok (.i2l, 1) := by decide +kernel
theorem dX2_sameRegion_28 : decode cX2_sameRegion 28 = .ok (.ladd, 1) := by decide +kernel
theorem dX2_sameRegion_29 : decode cX2_sameRegion 29 = .ok (.aload_n 2, 1) := by decide +kernel
theorem dX2_sameRegion_30 : decode cX2_sameRegion 30 = .ok (.getfield 15, 3) := by decide +kernel
theorem dX2_sameRegion_33 : decode cX2_sameRegion 33 = .ok (.i2l, 1) := by decide +kernel
theorem dX2_sameRegion_34 : decode cX2_sameRegion 34 = .ok (.lcmp, 1) := by decide +kernel
theorem dX2_sameRegion_35 : decode cX2_sameRegion 35 = .ok (.ifCond .le 5, 3) := by decide +kernel
theorem dX2_sameRegion_38 : decode cX2_sameRegion 38 = .ok (.iconst 0, 1) := by decide +kernel
theorem dX2_sameRegion_39 : decode cX2_sameRegion 39 = .ok (.ireturn, 1) := by decide +kernel
theorem dX2_sameRegion_40 : decode cX2_sameRegion 40 = .ok (.iconst 0, 1) := by decide +kernel
theorem dX2_sameRegion_41 : decode cX2_sameRegion 41 = .ok (.istore 5, 2) := by decide +kernel
theorem dX2_sameRegion_43 : decode cX2_sameRegion 43 = .ok (.iload 5, 2) := by decide +kernel
theorem dX2_sameRegion_45 : decode cX2_sameRegion 45 = .ok (.iload 4, 2) := by decide +kernel
theorem dX2_sameRegion_47 : decode cX2_sameRegion 47 = .ok (.if_icmp .ge 30, 3) := by decide +kernel
theorem dX2_sameRegion_50 : decode cX2_sameRegion 50 = .ok (.aload_n 0, 1) := by decide +kernel
theorem dX2_sameRegion_51 : decode cX2_sameRegion 51 = .ok (.iload_n 1, 1) := by decide +kernel
theorem dX2_sameRegion_52 : decode cX2_sameRegion 52 = .ok (.iload 5, 2) := by decide +kernel
theorem dX2_sameRegion_54 : decode cX2_sameRegion 54 = .ok (.iadd, 1) := by decide +kernel
theorem dX2_sameRegion_55 : decode cX2_sameRegion 55 = .ok (.invokevirtual 23, 3) := by decide +kernel
theorem dX2_sameRegion_58 : decode cX2_sameRegion 58 = .ok (.aload_n 2, 1) := by decide +kernel
theorem dX2_sameRegion_59 : decode cX2_sameRegion 59 = .ok (.iload_n 3, 1) := by decide +kernel
theorem dX2_sameRegion_60 : decode cX2_sameRegion 60 = .ok (.iload 5, 2) := by decide +kernel
theorem dX2_sameRegion_62 : decode cX2_sameRegion 62 = .ok (.iadd, 1) := by decide +kernel
theorem dX2_sameRegion_63 : decode cX2_sameRegion 63 = .ok (.invokevirtual 23, 3) := by decide +kernel
theorem dX2_sameRegion_66 : decode cX2_sameRegion 66 = .ok (.if_icmp .eq 5, 3) := by decide +kernel
theorem dX2_sameRegion_69 : decode cX2_sameRegion 69 = .ok (.iconst 0, 1) := by decide +kernel
theorem dX2_sameRegion_70 : decode cX2_sameRegion 70 = .ok (.ireturn, 1) := by decide +kernel
theorem dX2_sameRegion_71 : decode cX2_sameRegion 71 = .ok (.iinc 5 1, 3) := by decide +kernel
theorem dX2_sameRegion_74 : decode cX2_sameRegion 74 = .ok (.goto (-31), 3) := by decide +kernel
theorem dX2_sameRegion_77 : decode cX2_sameRegion 77 = .ok (.iconst 1, 1) := by decide +kernel
theorem dX2_sameRegion_78 : decode cX2_sameRegion 78 = .ok (.ireturn, 1) := by decide +kernel
theorem dX2_findForward_0 : decode cX2_findForward 0 = .ok (.iconst 0, 1) := by decide +kernel
theorem dX2_findForward_1 : decode cX2_findForward 1 = .ok (.iload_n 2, 1) := by decide +kernel
theorem dX2_findForward_2 : decode cX2_findForward 2 = .ok (.aload_n 0, 1) := by decide +kernel
theorem dX2_findForward_3 : decode cX2_findForward 3 = .ok (.getfield 15, 3) := by decide +kernel
theorem dX2_findForward_6 : decode cX2_findForward 6 = .ok (.invokestatic 49, 3) := by decide +kernel
theorem dX2_findForward_9 : decode cX2_findForward 9 = .ok (.invokestatic 59, 3) := by decide +kernel
theorem dX2_findForward_12 : decode cX2_findForward 12 = .ok (.istore_n 3, 1) := by decide +kernel
theorem dX2_findForward_13 : decode cX2_findForward 13 = .ok (.iload_n 3, 1) := by decide +kernel
theorem dX2_findForward_14 : decode cX2_findForward 14 = .ok (.aload_n 0, 1) := by decide +kernel
theorem dX2_findForward_15 : decode cX2_findForward 15 = .ok (.getfield 15, 3) := by decide +kernel
theorem dX2_findForward_18 : decode cX2_findForward 18 = .ok (.if_icmp .gt 20, 3) := by decide +kernel
theorem dX2_findForward_21 : decode cX2_findForward 21 = .ok (.aload_n 0, 1) := by decide +kernel
theorem dX2_findForward_22 : decode cX2_findForward 22 = .ok (.aload_n 1, 1) := by decide +kernel
theorem dX2_findForward_23 : decode cX2_findForward 23 = .ok (.iload_n 3, 1) := by decide +kernel
theorem dX2_findForward_24 : decode cX2_findForward 24 = .ok (.invokevirtual 62, 3) := by decide +kernel
theorem dX2_findForward_27 : decode cX2_findForward 27 = .ok (.ifCond .eq 5, 3) := by decide +kernel
theorem dX2_findForward_30 : decode cX2_findForward 30 = .ok (.iload_n 3, 1) := by decide +kernel
theorem dX2_findForward_31 : decode cX2_findForward 31 = .ok (.ireturn, 1) := by decide +kernel
theorem dX2_findForward_32 : decode cX2_findForward 32 = .ok (.iinc 3 1, 3) := by decide +kernel
theorem dX2_findForward_35 : decode cX2_findForward 35 = .ok (.goto (-22), 3) := by decide +kernel
theorem dX2_findForward_38 : decode cX2_findForward 38 = .ok (.iconst (-1), 1) := by decide +kernel
theorem dX2_findForward_39 : decode cX2_findForward 39 = .ok (.ireturn, 1) := by decide +kernel
theorem dX2_findBackward_0 : decode cX2_findBackward 0 = .ok (.iload_n 2, 1) := by decide +kernel
theorem dX2_findBackward_1 : decode cX2_findBackward 1 = .ok (.aload_n 0, 1) := by decide +kernel
theorem dX2_findBackward_2 : decode cX2_findBackward 2 = .ok (.getfield 15, 3) := by decide +kernel
theorem dX2_findBackward_5 : decode cX2_findBackward 5 = .ok (.invokestatic 49, 3) := by decide +kernel
theorem dX2_findBackward_8 : decode cX2_findBackward 8 = .ok (.istore_n 3, 1) := by decide +kernel
theorem dX2_findBackward_9 : decode cX2_findBackward 9 = .ok (.iload_n 3, 1) := by decide +kernel
theorem dX2_findBackward_10 : decode cX2_findBackward 10 = .ok (.ifCond .lt 20, 3) := by decide +kernel
theorem dX2_findBackward_13 : decode cX2_findBackward 13 = .ok (.aload_n 0, 1) := by decide +kernel
theorem dX2_findBackward_14 : decode cX2_findBackward 14 = .ok (.aload_n 1, 1) := by decide +kernel
theorem dX2_findBackward_15 : decode cX2_findBackward 15 = .ok (.iload_n 3, 1) := by decide +kernel
theorem dX2_findBackward_16 : decode cX2_findBackward 16 = .ok (.invokevirtual 62, 3) := by decide +kernel
theorem dX2_findBackward_19 : decode cX2_findBackward 19 = .ok (.ifCond .eq 5, 3) := by decide +kernel
theorem dX2_findBackward_22 : decode cX2_findBackward 22 = .ok (.iload_n 3, 1) := by decide +kernel
theorem dX2_findBackward_23 : decode cX2_findBackward 23 = .ok (.ireturn, 1) := by decide +kernel
theorem dX2_findBackward_24 : decode cX2_findBackward 24 = .ok (.iinc 3 (-1), 3) := by decide +kernel
theorem dX2_findBackward_27 : decode cX2_findBackward 27 = .ok (.goto (-18), 3) := by decide +kernel
theorem dX2_findBackward_30 : decode cX2_findBackward 30 = .ok (.iconst (-1), 1) := by decide +kernel
theorem dX2_findBackward_31 : decode cX2_findBackward 31 = .ok (.ireturn, 1) := by decide +kernel
theorem dX2_signForward_0 : decode cX2_signForward 0 = .ok (.iconst 0, 1) := by decide +kernel
theorem dX2_signForward_1 : decode cX2_signForward 1 = .ok (.iload_n 2, 1) := by decide +kernel
theorem dX2_signForward_2 : decode cX2_signForward 2 = .ok (.invokestatic 59, 3) := by decide +kernel
theorem dX2_signForward_5 : decode cX2_signForward 5 = .ok (.istore_n 3, 1) := by decide +kernel
theorem dX2_signForward_6 : decode cX2_signForward 6 = .ok (.iload_n 3, 1) := by decide +kernel
theorem dX2_signForward_7 : decode cX2_signForward 7 = .ok (.aload_n 0, 1) := by decide +kernel
theorem dX2_signForward_8 : decode cX2_signForward 8 = .ok (.getfield 15, 3) := by decide +kernel
theorem dX2_signForward_11 : decode cX2_signForward 11 = .ok (.if_icmp .ge 20, 3) := by decide +kernel
theorem dX2_signForward_14 : decode cX2_signForward 14 = .ok (.aload_n 0, 1) := by decide +kernel
theorem dX2_signForward_15 : decode cX2_signForward 15 = .ok (.iload_n 3, 1) := by decide +kernel
theorem dX2_signForward_16 : decode cX2_signForward 16 = .ok (.invokevirtual 23, 3) := by decide +kernel
theorem dX2_signForward_19 : decode cX2_signForward 19 = .ok (.iload_n 1, 1) := by decide +kernel
theorem dX2_signForward_20 : decode cX2_signForward 20 = .ok (.if_icmp .ne 5, 3) := by decide +kernel
theorem dX2_signForward_23 : decode cX2_signForward 23 = .ok (.iload_n 3, 1) := by decide +kernel
theorem dX2_signForward_24 : decode cX2_signForward 24 = .ok (.ireturn, 1) := by decide +kernel
theorem dX2_signForward_25 : decode cX2_signForward 25 = .ok (.iinc 3 1, 3) := by decide +kernel
theorem dX2_signForward_28 : decode cX2_signForward 28 = .ok (.goto (-22), 3) := by decide +kernel
theorem dX2_signForward_31 : decode cX2_signForward 31 = .ok (.iconst (-1), 1) := by decide +kernel
theorem dX2_signForward_32 : decode cX2_signForward 32 = .ok (.ireturn, 1) := by decide +kernel
theorem dX2_signBackward_0 : decode cX2_signBackward 0 = .ok (.iload_n 2, 1) := by decide +kernel
theorem dX2_signBackward_1 : decode cX2_signBackward 1 = .ok (.aload_n 0, 1) := by decide +kernel
theorem dX2_signBackward_2 : decode cX2_signBackward 2 = .ok (.getfield 15, 3) := by decide +kernel
theorem dX2_signBackward_5 : decode cX2_signBackward 5 = .ok (.iconst 1, 1) := by decide +kernel
theorem dX2_signBackward_6 : decode cX2_signBackward 6 = .ok (.isub, 1) := by decide +kernel
theorem dX2_signBackward_7 : decode cX2_signBackward 7 = .ok (.invokestatic 49, 3) := by decide +kernel
theorem dX2_signBackward_10 : decode cX2_signBackward 10 = .ok (.istore_n 3, 1) := by decide +kernel
theorem dX2_signBackward_11 : decode cX2_signBackward 11 = .ok (.iload_n 3, 1) := by decide +kernel
theorem dX2_signBackward_12 : decode cX2_signBackward 12 = .ok (.ifCond .lt 20, 3) := by decide +kernel
theorem dX2_signBackward_15 : decode cX2_signBackward 15 = .ok (.aload_n 0, 1) := by decide +kernel
theorem dX2_signBackward_16 : decode cX2_signBackward 16 = .ok (.iload_n 3, 1) := by decide +kernel
theorem dX2_signBackward_17 : decode cX2_signBackward 17 = .ok (.invokevirtual 23, 3) := by decide +kernel
theorem dX2_signBackward_20 : decode cX2_signBackward 20 = .ok (.iload_n 1, 1) := by decide +kernel
theorem dX2_signBackward_21 : decode cX2_signBackward 21 = .ok (.if_icmp .ne 5, 3) := by decide +kernel
theorem dX2_signBackward_24 : decode cX2_signBackward 24 = .ok (.iload_n 3, 1) := by decide +kernel
theorem dX2_signBackward_25 : decode cX2_signBackward 25 = .ok (.ireturn, 1) := by decide +kernel
theorem dX2_signBackward_26 : decode cX2_signBackward 26 = .ok (.iinc 3 (-1), 3) := by decide +kernel
theorem dX2_signBackward_29 : decode cX2_signBackward 29 = .ok (.goto (-18), 3) := by decide +kernel
theorem dX2_signBackward_32 : decode cX2_signBackward 32 = .ok (.iconst (-1), 1) := by decide +kernel
theorem dX2_signBackward_33 : decode cX2_signBackward 33 = .ok (.ireturn, 1) := by decide +kernel
theorem dX2_against_0 : decode cX2_against 0 = .ok (.aload_n 0, 1) := by decide +kernel
theorem dX2_against_1 : decode cX2_against 1 = .ok (.getfield 15, 3) := by decide +kernel
theorem dX2_against_4 : decode cX2_against 4 = .ok (.aload_n 1, 1) := by decide +kernel
theorem dX2_against_5 : decode cX2_against 5 = .ok (.getfield 15, 3) := by decide +kernel
theorem dX2_against_8 : decode cX2_against 8 = .ok (.invokestatic 49, 3) := by decide +kernel
theorem dX2_against_11 : decode cX2_against 11 = .ok (.istore_n 2, 1) := by decide +kernel
theorem dX2_against_12 : decode cX2_against 12 = .ok (.iconst 0, 1) := by decide +kernel
theorem dX2_against_13 : decode cX2_against 13 = .ok (.istore_n 3, 1) := by decide +kernel
theorem dX2_against_14 : decode cX2_against 14 = .ok (.iload_n 3, 1) := by decide +kernel
theorem dX2_against_15 : decode cX2_against 15 = .ok (.iload_n 2, 1) := by decide +kernel
theorem dX2_against_16 : decode cX2_against 16 = .ok (.if_icmp .ge 30, 3) := by decide +kernel
theorem dX2_against_19 : decode cX2_against 19 = .ok (.aload_n 0, 1) := by decide +kernel
theorem dX2_against_20 : decode cX2_against 20 = .ok (.iload_n 3, 1) := by decide +kernel
theorem dX2_against_21 : decode cX2_against 21 = .ok (.invokevirtual 23, 3) := by decide +kernel
theorem dX2_against_24 : decode cX2_against 24 = .ok (.aload_n 1, 1) := by decide +kernel
theorem dX2_against_25 : decode cX2_against 25 = .ok (.iload_n 3, 1) := by decide +kernel
theorem dX2_against_26 : decode cX2_against 26 = .ok (.invokevirtual 23, 3) := by decide +kernel
theorem dX2_against_29 : decode cX2_against 29 = .ok (.isub, 1) := by decide +kernel
theorem dX2_against_30 : decode cX2_against 30 = .ok (.istore 4, 2) := by decide +kernel
theorem dX2_against_32 : decode cX2_against 32 = .ok (.iload 4, 2) := by decide +kernel
theorem dX2_against_34 : decode cX2_against 34 = .ok (.ifCond .eq 6, 3) := by decide +kernel
theorem dX2_against_37 : decode cX2_against 37 = .ok (.iload 4, 2) := by decide +kernel
theorem dX2_against_39 : decode cX2_against 39 = .ok (.ireturn, 1) := by decide +kernel
theorem dX2_against_40 : decode cX2_against 40 = .ok (.iinc 3 1, 3) := by decide +kernel
theorem dX2_against_43 : decode cX2_against 43 = .ok (.goto (-29), 3) := by decide +kernel
theorem dX2_against_46 : decode cX2_against 46 = .ok (.aload_n 0, 1) := by decide +kernel
theorem dX2_against_47 : decode cX2_against 47 = .ok (.getfield 15, 3) := by decide +kernel
theorem dX2_against_50 : decode cX2_against 50 = .ok (.aload_n 1, 1) := by decide +kernel
theorem dX2_against_51 : decode cX2_against 51 = .ok (.getfield 15, 3) := by decide +kernel
theorem dX2_against_54 : decode cX2_against 54 = .ok (.isub, 1) := by decide +kernel
theorem dX2_against_55 : decode cX2_against 55 = .ok (.ireturn, 1) := by decide +kernel
theorem dX2_blanksAhead_0 : decode cX2_blanksAhead 0 = .ok (.iconst 0, 1) := by decide +kernel
theorem dX2_blanksAhead_1 : decode cX2_blanksAhead 1 = .ok (.istore_n 1, 1) := by decide +kernel
theorem dX2_blanksAhead_2 : decode cX2_blanksAhead 2 = .ok (.iload_n 1, 1) := by decide +kernel
theorem dX2_blanksAhead_3 : decode cX2_blanksAhead 3 = .ok (.aload_n 0, 1) := by decide +kernel
theorem dX2_blanksAhead_4 : decode cX2_blanksAhead 4 = .ok (.getfield 15, 3) := by decide +kernel
theorem dX2_blanksAhead_7 : decode cX2_blanksAhead 7 = .ok (.if_icmp .ge 19, 3) := by decide +kernel
theorem dX2_blanksAhead_10 : decode cX2_blanksAhead 10 = .ok (.aload_n 0, 1) := by decide +kernel
theorem dX2_blanksAhead_11 : decode cX2_blanksAhead 11 = .ok (.iload_n 1, 1) := by decide +kernel
theorem dX2_blanksAhead_12 : decode cX2_blanksAhead 12 = .ok (.invokevirtual 23, 3) := by decide +kernel
theorem dX2_blanksAhead_15 : decode cX2_blanksAhead 15 = .ok (.bipush 32, 2) := by decide +kernel
theorem dX2_blanksAhead_17 : decode cX2_blanksAhead 17 = .ok (.if_icmp .gt 9, 3) := by decide +kernel
theorem dX2_blanksAhead_20 : decode cX2_blanksAhead 20 = .ok (.iinc 1 1, 3) := by decide +kernel
theorem dX2_blanksAhead_23 : decode cX2_blanksAhead 23 = .ok (.goto (-21), 3) := by decide +kernel
theorem dX2_blanksAhead_26 : decode cX2_blanksAhead 26 = .ok (.iload_n 1, 1) := by decide +kernel
theorem dX2_blanksAhead_27 : decode cX2_blanksAhead 27 = .ok (.ireturn, 1) := by decide +kernel
theorem dX2_endBeforeBlanks_0 : decode cX2_endBeforeBlanks 0 = .ok (.aload_n 0, 1) := by decide +kernel
theorem dX2_endBeforeBlanks_1 : decode cX2_endBeforeBlanks 1 = .ok (.getfield 15, 3) := by decide +kernel
theorem dX2_endBeforeBlanks_4 : decode cX2_endBeforeBlanks 4 = .ok (.istore_n 2, 1) := by decide +kernel
theorem dX2_endBeforeBlanks_5 : decode cX2_endBeforeBlanks 5 = .ok (.iload_n 2, 1) := by decide +kernel
theorem dX2_endBeforeBlanks_6 : decode cX2_endBeforeBlanks 6 = .ok (.iload_n 1, 1) := by decide +kernel
theorem dX2_endBeforeBlanks_7 : decode cX2_endBeforeBlanks 7 = .ok (.if_icmp .le 21, 3) := by decide +kernel
theorem dX2_endBeforeBlanks_10 : decode cX2_endBeforeBlanks 10 = .ok (.aload_n 0, 1) := by decide +kernel
theorem dX2_endBeforeBlanks_11 : decode cX2_endBeforeBlanks 11 = .ok (.iload_n 2, 1) := by decide +kernel
theorem dX2_endBeforeBlanks_12 : decode cX2_endBeforeBlanks 12 = .ok (.iconst 1, 1) := by decide +kernel
theorem dX2_endBeforeBlanks_13 : decode cX2_endBeforeBlanks 13 = .ok (.isub, 1) := by decide +kernel
theorem dX2_endBeforeBlanks_14 : decode cX2_endBeforeBlanks 14 = .ok (.invokevirtual 23, 3) := by decide +kernel
theorem dX2_endBeforeBlanks_17 : decode cX2_endBeforeBlanks 17 = .ok (.bipush 32, 2) := by decide +kernel
theorem dX2_endBeforeBlanks_19 : decode cX2_endBeforeBlanks 19 = .ok (.if_icmp .gt 9, 3) := by decide +kernel
theorem dX2_endBeforeBlanks_22 : decode cX2_endBeforeBlanks 22 = .ok (.iinc 2 (-1), 3) := by decide +kernel
theorem dX2_endBeforeBlanks_25 : decode cX2_endBeforeBlanks 25 = .ok (.goto (-20), 3) := by decide +kernel
theorem dX2_endBeforeBlanks_28 : decode cX2_endBeforeBlanks 28 = .ok (.iload_n 2, 1) := by decide +kernel
theorem dX2_endBeforeBlanks_29 : decode cX2_endBeforeBlanks 29 = .ok (.ireturn, 1) := by decide +kernel
theorem dX3_init_0 : decode cX3_init 0 = .ok (.aload_n 0, 1) := by decide +kernel
theorem dX3_init_1 : decode cX3_init 1 = .ok (.invokespecial 1, 3) := by decide +kernel
theorem dX3_init_4 : decode cX3_init 4 = .ok (.aload_n 0, 1) := by decide +kernel
theorem dX3_init_5 : decode cX3_init 5 = .ok (.new 7, 3) := by decide +kernel
theorem dX3_init_8 : decode cX3_init 8 = .ok (.dup, 1) := by decide +kernel
theorem dX3_init_9 : decode cX3_init 9 = .ok (.invokespecial 9, 3) := by decide +kernel
theorem dX3_init_12 : decode cX3_init 12 = .ok (.putfield 10, 3) := by decide +kernel
theorem dX3_init_15 : decode cX3_init 15 = .ok (.aload_n 0, 1) := by decide +kernel
theorem dX3_init_16 : decode cX3_init 16 = .ok (.iconst 1, 1) := by decide +kernel
theorem dX3_init_17 : decode cX3_init 17 = .ok (.putfield 16, 3) := by decide +kernel
theorem dX3_init_20 : decode cX3_init 20 = .ok (.return_, 1) := by decide +kernel
theorem dX3_become_0 : decode cX3_become 0 = .ok (.aload_n 0, 1) := by decide +kernel
theorem dX3_become_1 : decode cX3_become 1 = .ok (.getfield 10, 3) := by decide +kernel
theorem dX3_become_4 : decode cX3_become 4 = .ok (.aload_n 1, 1) := by decide +kernel
theorem dX3_become_5 : decode cX3_become 5 = .ok (.iload_n 2, 1) := by decide +kernel
theorem dX3_become_6 : decode cX3_become 6 = .ok (.iload_n 3, 1) := by decide +kernel
theorem dX3_become_7 : decode cX3_become 7 = .ok (.invokevirtual 20, 3) := by decide +kernel
theorem dX3_become_10 : decode cX3_become 10 = .ok (.istore 4, 2) := by decide +kernel
theorem dX3_become_12 : decode cX3_become 12 = .ok (.iload 4, 2) := by decide +kernel
theorem dX3_become_14 : decode cX3_become 14 = .ok (.ifCond .lt 8, 3) := by decide +kernel
theorem dX3_become_17 : decode cX3_become 17 = .ok (.aload_n 0, 1) := by decide +kernel
theorem dX3_become_18 : decode cX3_become 18 = .ok (.iconst 0, 1) := by decide +kernel
theorem dX3_become_19 : decode cX3_become 19 = .ok (.putfield 16, 3) := by decide +kernel
theorem dX3_become_22 : decode cX3_become 22 = .ok (.iload 4, 2) := by decide +kernel
theorem dX3_become_24 : decode cX3_become 24 = .ok (.ireturn, 1) := by decide +kernel
theorem dX4_init_0 : decode cX4_init 0 = .ok (.aload_n 0, 1) := by decide +kernel
theorem dX4_init_1 : decode cX4_init 1 = .ok (.invokespecial 3, 3) := by decide +kernel
theorem dX4_init_4 : decode cX4_init 4 = .ok (.aload_n 0, 1) := by decide +kernel
theorem dX4_init_5 : decode cX4_init 5 = .ok (.iconst 4, 1) := by decide +kernel
theorem dX4_init_6 : decode cX4_init 6 = .ok (.anewarray 9, 3) := by decide +kernel
theorem dX4_init_9 : decode cX4_init 9 = .ok (.putfield 11, 3) := by decide +kernel
theorem dX4_init_12 : decode cX4_init 12 = .ok (.aload_n 0, 1) := by decide +kernel
theorem dX4_init_13 : decode cX4_init 13 = .ok (.bipush 8, 2) := by decide +kernel
theorem dX4_init_15 : decode cX4_init 15 = .ok (.anewarray 15, 3) := by decide +kernel
theorem dX4_init_18 : decode cX4_init 18 = .ok (.putfield 17, 3) := by decide +kernel
theorem dX4_init_21 : decode cX4_init 21 = .ok (.aload_n 0, 1) := by decide +kernel
theorem dX4_init_22 : decode cX4_init 22 = .ok (.iconst 2, 1) := by decide +kernel
theorem dX4_init_23 : decode cX4_init 23 = .ok (.anewarray 21, 3) := by decide +kernel
theorem dX4_init_26 : decode cX4_init 26 = .ok (.putfield 23, 3) := by decide +kernel
theorem dX4_init_29 : decode cX4_init 29 = .ok (.aload_n 0, 1) := by decide +kernel
theorem dX4_init_30 : decode cX4_init 30 = .ok (.new 27, 3) := by decide +kernel
theorem dX4_init_33 : decode cX4_init 33 = .ok (.dup, 1) := by decide +kernel
theorem dX4_init_34 : decode cX4_init 34 = .ok (.invokespecial 29, 3) := by decide +kernel
theorem dX4_init_37 : decode cX4_init 37 = .ok (.putfield 30, 3) := by decide +kernel
theorem dX4_init_40 : decode cX4_init 40 = .ok (.aload_n 0, 1) := by decide +kernel
theorem dX4_init_41 : decode cX4_init 41 = .ok (.new 9, 3) := by decide +kernel
theorem dX4_init_44 : decode cX4_init 44 = .ok (.dup, 1) := by decide +kernel
theorem dX4_init_45 : decode cX4_init 45 = .ok (.invokespecial 34, 3) := by decide +kernel
theorem dX4_init_48 : decode cX4_init 48 = .ok (.putfield 35, 3) := by decide +kernel
theorem dX4_init_51 : decode cX4_init 51 = .ok (.aload_n 0, 1) := by decide +kernel
theorem dX4_init_52 : decode cX4_init 52 = .ok (.new 9, 3) := by decide +kernel
theorem dX4_init_55 : decode cX4_init 55 = .ok (.dup, 1) := by decide +kernel
theorem dX4_init_56 : decode cX4_init 56 = .ok (.invokespecial 34, 3) := by decide +kernel
theorem dX4_init_59 : decode cX4_init 59 = .ok (.putfield 39, 3) := by decide +kernel
theorem dX4_init_62 : decode cX4_init 62 = .ok (.iconst 0, 1) := by decide +kernel
theorem dX4_init_63 : decode cX4_init 63 = .ok (.istore_n 1, 1) := by decide +kernel
theorem dX4_init_64 : decode cX4_init 64 = .ok (.iload_n 1, 1) := by decide +kernel
theorem dX4_init_65 : decode cX4_init 65 = .ok (.aload_n 0, 1) := by decide +kernel
theorem dX4_init_66 : decode cX4_init 66 = .ok (.getfield 11, 3) := by decide +kernel
theorem dX4_init_69 : decode cX4_init 69 = .ok (.arraylength, 1) := by decide +kernel
theorem dX4_init_70 : decode cX4_init 70 = .ok (.if_icmp .ge 22, 3) := by decide +kernel
theorem dX4_init_73 : decode cX4_init 73 = .ok (.aload_n 0, 1) := by decide +kernel
theorem dX4_init_74 : decode cX4_init 74 = .ok (.getfield 11, 3) := by decide +kernel
theorem dX4_init_77 : decode cX4_init 77 = .ok (.iload_n 1, 1) := by decide +kernel
theorem dX4_init_78 : decode cX4_init 78 = .ok (.new 9, 3) := by decide +kernel
theorem dX4_init_81 : decode cX4_init 81 = .ok (.dup, 1) := by decide +kernel
theorem dX4_init_82 : decode cX4_init 82 = .ok (.invokespecial 34, 3) := by decide +kernel
theorem dX4_init_85 : decode cX4_init 85 = .ok (.aastore, 1) := by decide +kernel
theorem dX4_init_86 : decode cX4_init 86 = .ok (.iinc 1 1, 3) := by decide +kernel
theorem dX4_init_89 : decode cX4_init 89 = .ok (.goto (-25), 3) := by decide +kernel
theorem dX4_init_92 : decode cX4_init 92 = .ok (.iconst 0, 1) := by decide +kernel
theorem dX4_init_93 : decode cX4_init 93 = .ok (.istore_n 1, 1) := by decide +kernel
theorem dX4_init_94 : decode cX4_init 94 = .ok (.iload_n 1, 1) := by decide +kernel
theorem dX4_init_95 : decode cX4_init 95 = .ok (.aload_n 0, 1) := by decide +kernel
theorem dX4_init_96 : decode cX4_init 96 = .ok (.getfield 17, 3) := by decide +kernel
theorem dX4_init_99 : decode cX4_init 99 = .ok (.arraylength, 1) := by decide +kernel
theorem dX4_init_100 : decode cX4_init 100 = .ok (.if_icmp .ge 22, 3) := by decide +kernel
theorem dX4_init_103 : decode cX4_init 103 = .ok (.aload_n 0, 1) := by decide +kernel
theorem dX4_init_104 : decode cX4_init 104 = .ok (.getfield 17, 3) := by decide +kernel
theorem dX4_init_107 : decode cX4_init 107 = .ok (.iload_n 1, 1) := by decide +kernel
theorem dX4_init_108 : decode cX4_init 108 = .ok (.new 15, 3) := by decide +kernel
theorem dX4_init_111 : decode cX4_init 111 = .ok (.dup, 1) := by decide +kernel
theorem dX4_init_112 : decode cX4_init 112 = .ok (.invokespecial 42, 3) := by decide +kernel
theorem dX4_init_115 : decode cX4_init 115 = .ok (.aastore, 1) := by decide +kernel
theorem dX4_init_116 : decode cX4_init 116 = .ok (.iinc 1 1, 3) := by decide +kernel
theorem dX4_init_119 : decode cX4_init 119 = .ok (.goto (-25), 3) := by decide +kernel
theorem dX4_init_122 : decode cX4_init 122 = .ok (.iconst 0, 1) := by decide +kernel
theorem dX4_init_123 : decode cX4_init 123 = .ok (.istore_n 1, 1) := by decide +kernel
theorem dX4_init_124 : decode cX4_init 124 = .ok (.iload_n 1, 1) := by decide +kernel
theorem dX4_init_125 : decode cX4_init 125 = .ok (.aload_n 0, 1) := by decide +kernel
theorem dX4_init_126 : decode cX4_init 126 = .ok (.getfield 23, 3) := by decide +kernel
theorem dX4_init_129 : decode cX4_init 129 = .ok (.arraylength, 1) := by decide +kernel
theorem dX4_init_130 : decode cX4_init 130 = .ok (.if_icmp .ge 22, 3) := by decide +kernel
theorem dX4_init_133 : decode cX4_init 133 = .ok (.aload_n 0, 1) := by decide +kernel
theorem dX4_init_134 : decode cX4_init 134 = .ok (.getfield 23, 3) := by decide +kernel
theorem dX4_init_137 : decode cX4_init 137 = .ok (.iload_n 1, 1) := by decide +kernel
theorem dX4_init_138 : decode cX4_init 138 = .ok (.new 21, 3) := by decide +kernel
theorem dX4_init_141 : decode cX4_init 141 = .ok (.dup, 1) := by decide +kernel
theorem dX4_init_142 : decode cX4_init 142 = .ok (.invokespecial 43, 3) := by decide +kernel
theorem dX4_init_145 : decode cX4_init 145 = .ok (.aastore, 1) := by decide +kernel
theorem dX4_init_146 : decode cX4_init 146 = .ok (.iinc 1 1, 3) := by decide +kernel
theorem dX4_init_149 : decode cX4_init 149 = .ok (.goto (-25), 3) := by decide +kernel
theorem dX4_init_152 : decode cX4_init 152 = .ok (.iconst 0, 1) := by decide +kernel
theorem dX4_init_153 : decode cX4_init 153 = .ok (.istore_n 1, 1) := by decide +kernel
theorem dX4_init_154 : decode cX4_init 154 = .ok (.iload_n 1, 1) := by decide +kernel
theorem dX4_init_155 : decode cX4_init 155 = .ok (.getstatic 44, 3) := by decide +kernel
theorem dX4_init_158 : decode cX4_init 158 = .ok (.arraylength, 1) := by decide +kernel
theorem dX4_init_159 : decode cX4_init 159 = .ok (.if_icmp .ge 21, 3) := by decide +kernel
theorem dX4_init_162 : decode cX4_init 162 = .ok (.aload_n 0, 1) := by decide +kernel
theorem dX4_init_163 : decode cX4_init 163 = .ok (.getfield 35, 3) := by decide +kernel
theorem dX4_init_166 : decode cX4_init 166 = .ok (.getstatic 44, 3) := by decide +kernel
theorem dX4_init_169 : decode cX4_init 169 = .ok (.iload_n 1, 1) := by decide +kernel
theorem dX4_init_170 : decode cX4_init 170 = .ok (.iaload, 1) := by decide +kernel
theorem dX4_init_171 : decode cX4_init 171 = .ok (.invokevirtual 48, 3) := by decide +kernel
theorem dX4_init_174 : decode cX4_init 174 = .ok (.iinc 1 1, 3) := by decide +kernel
theorem dX4_init_177 : decode cX4_init 177 = .ok (.goto (-23), 3) := by decide +kernel
theorem dX4_init_180 : decode cX4_init 180 = .ok (.return_, 1) := by decide +kernel
theorem dX4_sign_0 : decode cX4_sign 0 = .ok (.aload_n 0, 1) := by decide +kernel
theorem dX4_sign_1 : decode cX4_sign 1 = .ok (.iload_n 1, 1) := by decide +kernel
theorem dX4_sign_2 : decode cX4_sign 2 = .ok (.invokevirtual 52, 3) := by decide +kernel
theorem dX4_sign_5 : decode cX4_sign 5 = .ok (.astore_n 3, 1) := by decide +kernel
theorem dX4_sign_6 : decode cX4_sign 6 = .ok (.aload_n 3, 1) := by decide +kernel
theorem dX4_sign_7 : decode cX4_sign 7 = .ok (.ifnonnull 7, 3) := by decide +kernel
theorem dX4_sign_10 : decode cX4_sign 10 = .ok (.sipush (-1001), 3) := by decide +kernel
theorem dX4_sign_13 : decode cX4_sign 13 = .ok (.ireturn, 1) := by decide +kernel
theorem dX4_sign_14 : decode cX4_sign 14 = .ok (.iload_n 2, 1) := by decide +kernel
theorem dX4_sign_15 : decode cX4_sign 15 = .ok (.invokestatic 56, 3) := by decide +kernel
theorem dX4_sign_18 : decode cX4_sign 18 = .ok (.ifCond .ne 7, 3) := by decide +kernel
theorem dX4_sign_21 : decode cX4_sign 21 = .ok (.sipush (-1002), 3) := by decide +kernel
theorem dX4_sign_24 : decode cX4_sign 24 = .ok (.ireturn, 1) := by decide +kernel
theorem dX4_sign_25 : decode cX4_sign 25 = .ok (.aload_n 3, 1) := by decide +kernel
theorem dX4_sign_26 : decode cX4_sign 26 = .ok (.aload_n 3, 1) := by decide +kernel
theorem dX4_sign_27 : decode cX4_sign 27 = .ok (.getfield 60, 3) := by decide +kernel
theorem dX4_sign_30 : decode cX4_sign 30 = .ok (.aload_n 0, 1) := by decide +kernel
theorem dX4_sign_31 : decode cX4_sign 31 = .ok (.iload_n 2, 1) := by decide +kernel
theorem dX4_sign_32 : decode cX4_sign 32 = .ok (.invokevirtual 64, 3) := by decide +kernel
theorem dX4_sign_35 : decode cX4_sign 35 = .ok (.invokevirtual 67, 3) := by decide +kernel
theorem dX4_sign_38 : decode cX4_sign 38 = .ok (.ireturn, 1) := by decide +kernel
theorem dX4_signs_0 : decode cX4_signs 0 = .ok (.aload_n 0, 1) := by decide +kernel
theorem dX4_signs_1 : decode cX4_signs 1 = .ok (.iload_n 1, 1) := by decide +kernel
theorem dX4_signs_2 : decode cX4_signs 2 = .ok (.invokevirtual 52, 3) := by decide +kernel
theorem dX4_signs_5 : decode cX4_signs 5 = .ok (.astore 5, 2) := by decide +kernel
theorem dX4_signs_7 : decode cX4_signs 7 = .ok (.aload 5, 2) := by decide +kernel
theorem dX4_signs_9 : decode cX4_signs 9 = .ok (.ifnonnull 7, 3) := by decide +kernel
theorem dX4_signs_12 : decode cX4_signs 12 = .ok (.sipush (-1001), 3) := by decide +kernel
theorem dX4_signs_15 : decode cX4_signs 15 = .ok (.ireturn, 1) := by decide +kernel
theorem dX4_signs_16 : decode cX4_signs 16 = .ok (.iload_n 2, 1) := by decide +kernel
theorem dX4_signs_17 : decode cX4_signs 17 = .ok (.ifCond .lt 9, 3) := by decide +kernel
theorem dX4_signs_20 : decode cX4_signs 20 = .ok (.iload_n 2, 1) := by decide +kernel
theorem dX4_signs_21 : decode cX4_signs 21 = .ok (.bipush 8, 2) := by decide +kernel
theorem dX4_signs_23 : decode cX4_signs 23 = .ok (.if_icmp .le 7, 3) := by decide +kernel
theorem dX4_signs_26 : decode cX4_signs 26 = .ok (.sipush (-1002), 3) := by decide +kernel
theorem dX4_signs_29 : decode cX4_signs 29 = .ok (.ireturn, 1) := by decide +kernel
theorem dX4_signs_30 : decode cX4_signs 30 = .ok (.aload 5, 2) := by decide +kernel
theorem dX4_signs_32 : decode cX4_signs 32 = .ok (.aload 5, 2) := by decide +kernel
theorem dX4_signs_34 : decode cX4_signs 34 = .ok (.getfield 60, 3) := by decide +kernel
theorem dX4_signs_37 : decode cX4_signs 37 = .ok (.aload_n 0, 1) := by decide +kernel
theorem dX4_signs_38 : decode cX4_signs 38 = .ok (.iload_n 2, 1) := by decide +kernel
theorem dX4_signs_39 : decode cX4_signs 39 = .ok (.lload_n 3, 1) := by decide +kernel
theorem dX4_signs_40 : decode cX4_signs 40 = .ok (.invokevirtual 71, 3) := by decide +kernel
theorem dX4_signs_43 : decode cX4_signs 43 = .ok (.invokevirtual 67, 3) := by decide +kernel
theorem dX4_signs_46 : decode cX4_signs 46 = .ok (.ireturn, 1) := by decide +kernel
theorem dX4_text_0 : decode cX4_text 0 = .ok (.aload_n 0, 1) := by decide +kernel
theorem dX4_text_1 : decode cX4_text 1 = .ok (.iload_n 1, 1) := by decide +kernel
theorem dX4_text_2 : decode cX4_text 2 = .ok (.invokevirtual 52, 3) := by decide +kernel
theorem dX4_text_5 : decode cX4_text 5 = .ok (.astore_n 3, 1) := by decide +kernel
theorem dX4_text_6 : decode cX4_text 6 = .ok (.aload_n 0, 1) := by decide +kernel
theorem dX4_text_7 : decode cX4_text 7 = .ok (.iload_n 2, 1) := by decide +kernel
theorem dX4_text_8 : decode cX4_text 8 = .ok (.invokevirtual 75, 3) := by decide +kernel
theorem dX4_text_11 : decode cX4_text 11 = .ok (.astore 4, 2) := by decide +kernel
theorem dX4_text_13 : decode cX4_text 13 = .ok (.aload_n 3, 1) := by decide +kernel
theorem dX4_text_14 : decode cX4_text 14 = .ok (.ifnull 8, 3) := by decide +kernel
theorem dX4_text_17 : decode cX4_text 17 = .ok (.aload 4, 2) := by decide +kernel
theorem dX4_text_19 : decode cX4_text 19 = .ok (.ifnonnull 7, 3) := by decide +kernel
theorem dX4_text_22 : decode cX4_text 22 = .ok (.sipush (-1001), 3) := by decide +kernel
theorem dX4_text_25 : decode cX4_text 25 = .ok (.ireturn, 1) := by decide +kernel
theorem dX4_text_26 : decode cX4_text 26 = .ok (.aload_n 3, 1) := by decide +kernel
theorem dX4_text_27 : decode cX4_text 27 = .ok (.aload_n 3, 1) := by decide +kernel
theorem dX4_text_28 : decode cX4_text 28 = .ok (.getfield 60, 3) := by decide +kernel
theorem dX4_text_31 : decode cX4_text 31 = .ok (.aload 4, 2) := by decide +kernel
theorem dX4_text_33 : decode cX4_text 33 = .ok (.invokevirtual 67, 3) := by decide +kernel
theorem dX4_text_36 : decode cX4_text 36 = .ok (.ireturn, 1) := by decide +kernel
theorem dX4_part_0 : decode cX4_part 0 = .ok (.aload_n 0, 1) := by decide +kernel
theorem dX4_part_1 : decode cX4_part 1 = .ok (.iload_n 1, 1) := by decide +kernel
theorem dX4_part_2 : decode cX4_part 2 = .ok (.invokevirtual 52, 3) := by decide +kernel
theorem dX4_part_5 : decode cX4_part 5 = .ok (.astore 5, 2) := by decide +kernel
theorem dX4_part_7 : decode cX4_part 7 = .ok (.aload_n 0, 1) := by decide +kernel
theorem dX4_part_8 : decode cX4_part 8 = .ok (.iload_n 2, 1) := by decide +kernel
theorem dX4_part_9 : decode cX4_part 9 = .ok (.invokevirtual 75, 3) := by decide +kernel
theorem dX4_part_12 : decode cX4_part 12 = .ok (.astore 6, 2) := by decide +kernel
theorem dX4_part_14 : decode cX4_part 14 = .ok (.aload 5, 2) := by decide +kernel
theorem dX4_part_16 : decode cX4_part 16 = .ok (.ifnull 8, 3) := by decide +kernel
theorem dX4_part_19 : decode cX4_part 19 = .ok (.aload 6, 2) := by decide +kernel
theorem dX4_part_21 : decode cX4_part 21 = .ok (.ifnonnull 7, 3) := by decide +kernel
theorem dX4_part_24 : decode cX4_part 24 = .ok (.sipush (-1001), 3) := by decide +kernel
theorem dX4_part_27 : decode cX4_part 27 = .ok (.ireturn, 1) := by decide +kernel
theorem dX4_part_28 : decode cX4_part 28 = .ok (.aload 5, 2) := by decide +kernel
theorem dX4_part_30 : decode cX4_part 30 = .ok (.aload 5, 2) := by decide +kernel
theorem dX4_part_32 : decode cX4_part 32 = .ok (.getfield 60, 3) := by decide +kernel
theorem dX4_part_35 : decode cX4_part 35 = .ok (.aload 5, 2) := by decide +kernel
theorem dX4_part_37 : decode cX4_part 37 = .ok (.getfield 60, 3) := by decide +kernel
theorem dX4_part_40 : decode cX4_part 40 = .ok (.aload 6, 2) := by decide +kernel
theorem dX4_part_42 : decode cX4_part 42 = .ok (.iload_n 3, 1) := by decide +kernel
theorem dX4_part_43 : decode cX4_part 43 = .ok (.iload 4, 2) := by decide +kernel
theorem dX4_part_45 : decode cX4_part 45 = .ok (.invokevirtual 78, 3) := by decide +kernel
theorem dX4_part_48 : decode cX4_part 48 = .ok (.ireturn, 1) := by decide +kernel
theorem dX4_number_0 : decode cX4_number 0 = .ok (.aload_n 0, 1) := by decide +kernel
theorem dX4_number_1 : decode cX4_number 1 = .ok (.iload_n 1, 1) := by decide +kernel
theorem dX4_number_2 : decode cX4_number 2 = .ok (.invokevirtual 52, 3) := by decide +kernel
theorem dX4_number_5 : decode cX4_number 5 = .ok (.astore 4, 2) := by decide +kernel
theorem dX4_number_7 : decode cX4_number 7 = .ok (.aload 4, 2) := by decide +kernel
theorem dX4_number_9 : decode cX4_number 9 = .ok (.ifnonnull 7, 3) := by decide +kernel
theorem dX4_number_12 : decode cX4_number 12 = .ok (.sipush (-1001), 3) := by decide +kernel
theorem dX4_number_15 : decode cX4_number 15 = .ok (.ireturn, 1) := by decide +kernel
theorem dX4_number_16 : decode cX4_number 16 = .ok (.aload 4, 2) := by decide +kernel
theorem dX4_number_18 : decode cX4_number 18 = .ok (.aload 4, 2) := by decide +kernel
theorem dX4_number_20 : decode cX4_number 20 = .ok (.getfield 60, 3) := by decide +kernel
theorem dX4_number_23 : decode cX4_number 23 = .ok (.aload_n 0, 1) := by decide +kernel
theorem dX4_number_24 : decode cX4_number 24 = .ok (.lload_n 2, 1) := by decide +kernel
theorem dX4_number_25 : decode cX4_number 25 = .ok (.invokevirtual 82, 3) := by decide +kernel
theorem dX4_number_28 : decode cX4_number 28 = .ok (.invokevirtual 67, 3) := by decide +kernel
theorem dX4_number_31 : decode cX4_number 31 = .ok (.ireturn, 1) := by decide +kernel
theorem dX4_insert_0 : decode cX4_insert 0 = .ok (.aload_n 0, 1) := by decide +kernel
theorem dX4_insert_1 : decode cX4_insert 1 = .ok (.iload_n 1, 1) := by decide +kernel
theorem dX4_insert_2 : decode cX4_insert 2 = .ok (.invokevirtual 52, 3) := by decide +kernel
theorem dX4_insert_5 : decode cX4_insert 5 = .ok (.astore 4, 2) := by decide +kernel
theorem dX4_insert_7 : decode cX4_insert 7 = .ok (.aload_n 0, 1) := by decide +kernel
theorem dX4_insert_8 : decode cX4_insert 8 = .ok (.iload_n 3, 1) := by decide +kernel
theorem dX4_insert_9 : decode cX4_insert 9 = .ok (.invokevirtual 75, 3) := by decide +kernel
theorem dX4_insert_12 : decode cX4_insert 12 = .ok (.astore 5, 2) := by decide +kernel
theorem dX4_insert_14 : decode cX4_insert 14 = .ok (.aload 4, 2) := by decide +kernel
theorem dX4_insert_16 : decode cX4_insert 16 = .ok (.ifnull 8, 3) := by decide +kernel
theorem dX4_insert_19 : decode cX4_insert 19 = .ok (.aload 5, 2) := by decide +kernel
theorem dX4_insert_21 : decode cX4_insert 21 = .ok (.ifnonnull 7, 3) := by decide +kernel
theorem dX4_insert_24 : decode cX4_insert 24 = .ok (.sipush (-1001), 3) := by decide +kernel
theorem dX4_insert_27 : decode cX4_insert 27 = .ok (.ireturn, 1) := by decide +kernel
theorem dX4_insert_28 : decode cX4_insert 28 = .ok (.aload 4, 2) := by decide +kernel
theorem dX4_insert_30 : decode cX4_insert 30 = .ok (.iload_n 2, 1) := by decide +kernel
theorem dX4_insert_31 : decode cX4_insert 31 = .ok (.aload 5, 2) := by decide +kernel
theorem dX4_insert_33 : decode cX4_insert 33 = .ok (.invokevirtual 67, 3) := by decide +kernel
theorem dX4_insert_36 : decode cX4_insert 36 = .ok (.ireturn, 1) := by decide +kernel
theorem dX4_insertPart_0 : decode cX4_insertPart 0 = .ok (.aload_n 0, 1) := by decide +kernel
theorem dX4_insertPart_1 : decode cX4_insertPart 1 = .ok (.iload_n 1, 1) := by decide +kernel
theorem dX4_insertPart_2 : decode cX4_insertPart 2 = .ok (.invokevirtual 52, 3) := by decide +kernel
theorem dX4_insertPart_5 : decode cX4_insertPart 5 = .ok (.astore 6, 2) := by decide +kernel
theorem dX4_insertPart_7 : decode cX4_insertPart 7 = .ok (.aload_n 0, 1) := by decide +kernel
theorem dX4_insertPart_8 : decode cX4_insertPart 8 = .ok (.iload_n 3, 1) := by decide +kernel
theorem dX4_insertPart_9 : decode cX4_insertPart 9 = .ok (.invokevirtual 75, 3) := by decide +kernel
theorem dX4_insertPart_12 : decode cX4_insertPart 12 = .ok (.astore 7, 2) := by decide +kernel
theorem dX4_insertPart_14 : decode cX4_insertPart 14 = .ok (.aload 6, 2) := by decide +kernel
theorem dX4_insertPart_16 : decode cX4_insertPart 16 = .ok (.ifnull 8, 3) := by decide +kernel
theorem dX4_insertPart_19 : decode cX4_insertPart 19 = .ok (.aload 7, 2) := by decide +kernel
theorem dX4_insertPart_21 : decode cX4_insertPart 21 = .ok (.ifnonnull 7, 3) := by decide +kernel
theorem dX4_insertPart_24 : decode cX4_insertPart 24 = .ok (.sipush (-1001), 3) := by decide +kernel
theorem dX4_insertPart_27 : decode cX4_insertPart 27 = .ok (.ireturn, 1) := by decide +kernel
theorem dX4_insertPart_28 : decode cX4_insertPart 28 = .ok (.aload 6, 2) := by decide +kernel
theorem dX4_insertPart_30 : decode cX4_insertPart 30 = .ok (.iload_n 2, 1) := by decide +kernel
theorem dX4_insertPart_31 : decode cX4_insertPart 31 = .ok (.iload_n 2, 1) := by decide +kernel
theorem dX4_insertPart_32 : decode cX4_insertPart 32 = .ok (.aload 7, 2) := by decide +kernel
theorem dX4_insertPart_34 : decode cX4_insertPart 34 = .ok (.iload 4, 2) := by decide +kernel
theorem dX4_insertPart_36 : decode cX4_insertPart 36 = .ok (.iload 5, 2) := by decide +kernel
theorem dX4_insertPart_38 : decode cX4_insertPart 38 = .ok (.invokevirtual 78, 3) := by decide +kernel
theorem dX4_insertPart_41 : decode cX4_insertPart 41 = .ok (.ireturn, 1) := by decide +kernel
theorem dX4_insertSign_0 : decode cX4_insertSign 0 = .ok (.aload_n 0, 1) := by decide +kernel
theorem dX4_insertSign_1 : decode cX4_insertSign 1 = .ok (.iload_n 1, 1) := by decide +kernel
theorem dX4_insertSign_2 : decode cX4_insertSign 2 = .ok (.invokevirtual 52, 3) := by decide +kernel
theorem dX4_insertSign_5 : decode cX4_insertSign 5 = .ok (.astore 4, 2) := by decide +kernel
theorem dX4_insertSign_7 : decode cX4_insertSign 7 = .ok (.aload 4, 2) := by decide +kernel
theorem dX4_insertSign_9 : decode cX4_insertSign 9 = .ok (.ifnonnull 7, 3) := by decide +kernel
theorem dX4_insertSign_12 : decode cX4_insertSign 12 = .ok (.sipush (-1001), 3) := by decide +kernel
theorem dX4_insertSign_15 : decode cX4_insertSign 15 = .ok (.ireturn, 1) := by decide +kernel
theorem dX4_insertSign_16 : decode cX4_insertSign 16 = .ok (.iload_n 3, 1) := by decide +kernel
theorem dX4_insertSign_17 : decode cX4_insertSign 17 = .ok (.invokestatic 56, 3) := by decide +kernel
theorem dX4_insertSign_20 : decode cX4_insertSign 20 = .ok (.ifCond .ne 7, 3) := by decide +kernel
theorem dX4_insertSign_23 : decode cX4_insertSign 23 = .ok (.sipush (-1002), 3) := by decide +kernel
theorem dX4_insertSign_26 : decode cX4_insertSign 26 = .ok (.ireturn, 1) := by decide +kernel
theorem dX4_insertSign_27 : decode cX4_insertSign 27 = .ok (.aload 4, 2) := by decide +kernel
theorem dX4_insertSign_29 : decode cX4_insertSign 29 = .ok (.iload_n 2, 1) := by decide +kernel
theorem dX4_insertSign_30 : decode cX4_insertSign 30 = .ok (.aload_n 0, 1) := by decide +kernel
theorem dX4_insertSign_31 : decode cX4_insertSign 31 = .ok (.iload_n 3, 1) := by decide +kernel
theorem dX4_insertSign_32 : decode cX4_insertSign 32 = .ok (.invokevirtual 64, 3) := by decide +kernel
theorem dX4_insertSign_35 : decode cX4_insertSign 35 = .ok (.invokevirtual 67, 3) := by decide +kernel
theorem dX4_insertSign_38 : decode cX4_insertSign 38 = .ok (.ireturn, 1) := by decide +kernel
theorem dX4_delete_0 : decode cX4_delete 0 = .ok (.aload_n 0, 1) := by decide +kernel
theorem dX4_delete_1 : decode cX4_delete 1 = .ok (.iload_n 1, 1) := by decide +kernel
theorem dX4_delete_2 : decode cX4_delete 2 = .ok (.invokevirtual 52, 3) := by decide +kernel
theorem dX4_delete_5 : decode cX4_delete 5 = .ok (.astore 4, 2) := by decide +kernel
theorem dX4_delete_7 : decode cX4_delete 7 = .ok (.aload 4, 2) := by decide +kernel
theorem dX4_delete_9 : decode cX4_delete 9 = .ok (.ifnonnull 7, 3) := by decide +kernel
theorem dX4_delete_12 : decode cX4_delete 12 = .ok (.sipush (-1001), 3) := by decide +kernel
theorem dX4_delete_15 : decode cX4_delete 15 = .ok (.ireturn, 1) := by decide +kernel
theorem dX4_delete_16 : decode cX4_delete 16 = .ok (.aload 4, 2) := by decide +kernel
theorem dX4_delete_18 : decode cX4_delete 18 = .ok (.iload_n 2, 1) := by decide +kernel
theorem dX4_delete_19 : decode cX4_delete 19 = .ok (.iload_n 3, 1) := by decide +kernel
theorem dX4_delete_20 : decode cX4_delete 20 = .ok (.aload_n 0, 1) := by decide +kernel
theorem dX4_delete_21 : decode cX4_delete 21 = .ok (.invokevirtual 86, 3) := by decide +kernel
theorem dX4_delete_24 : decode cX4_delete 24 = .ok (.invokevirtual 90, 3) := by decide +kernel
theorem dX4_delete_27 : decode cX4_delete 27 = .ok (.ireturn, 1) := by decide +kernel
theorem dX4_deleteAt_0 : decode cX4_deleteAt 0 = .ok (.aload_n 0, 1) := by decide +kernel
theorem dX4_deleteAt_1 : decode cX4_deleteAt 1 = .ok (.iload_n 1, 1) := by decide +kernel
theorem dX4_deleteAt_2 : decode cX4_deleteAt 2 = .ok (.invokevirtual 52, 3) := by decide +kernel
theorem dX4_deleteAt_5 : decode cX4_deleteAt 5 = .ok (.astore_n 3, 1) := by decide +kernel
theorem dX4_deleteAt_6 : decode cX4_deleteAt 6 = .ok (.aload_n 3, 1) := by decide +kernel
theorem dX4_deleteAt_7 : decode cX4_deleteAt 7 = .ok (.ifnonnull 7, 3) := by decide +kernel
theorem dX4_deleteAt_10 : decode cX4_deleteAt 10 = .ok (.sipush (-1001), 3) := by decide +kernel
theorem dX4_deleteAt_13 : decode cX4_deleteAt 13 = .ok (.ireturn, 1) := by decide +kernel
theorem dX4_deleteAt_14 : decode cX4_deleteAt 14 = .ok (.aload_n 3, 1) := by decide +kernel
theorem dX4_deleteAt_15 : decode cX4_deleteAt 15 = .ok (.iload_n 2, 1) := by decide +kernel
theorem dX4_deleteAt_16 : decode cX4_deleteAt 16 = .ok (.invokevirtual 94, 3) := by decide +kernel
theorem dX4_deleteAt_19 : decode cX4_deleteAt 19 = .ok (.ifCond .ne 7, 3) := by decide +kernel
theorem dX4_deleteAt_22 : decode cX4_deleteAt 22 = .ok (.sipush (-1005), 3) := by decide +kernel
theorem dX4_deleteAt_25 : decode cX4_deleteAt 25 = .ok (.ireturn, 1) := by decide +kernel
theorem dX4_deleteAt_26 : decode cX4_deleteAt 26 = .ok (.aload_n 3, 1) := by decide +kernel
theorem dX4_deleteAt_27 : decode cX4_deleteAt 27 = .ok (.iload_n 2, 1) := by decide +kernel
theorem dX4_deleteAt_28 : decode cX4_deleteAt 28 = .ok (.iload_n 2, 1) := by decide +kernel
theorem dX4_deleteAt_29 : decode cX4_deleteAt 29 = .ok (.iconst 1, 1) := by decide +kernel
theorem dX4_deleteAt_30 : decode cX4_deleteAt 30 = .ok (.iadd, 1) := by decide +kernel
theorem dX4_deleteAt_31 : decode cX4_deleteAt 31 = .ok (.aload_n 0, 1) := by decide +kernel
theorem dX4_deleteAt_32 : decode cX4_deleteAt 32 = .ok (.invokevirtual 86, 3) := by decide +kernel
theorem dX4_deleteAt_35 : decode cX4_deleteAt 35 = .ok (.invokevirtual 90, 3) := by decide +kernel
theorem dX4_deleteAt_38 : decode cX4_deleteAt 38 = .ok (.ireturn, 1) := by decide +kernel
theorem dX4_replace_0 : decode cX4_replace 0 = .ok (.aload_n 0, 1) := by decide +kernel
theorem dX4_replace_1 : decode cX4_replace 1 = .ok (.iload_n 1, 1) := by decide +kernel
theorem dX4_replace_2 : decode cX4_replace 2 = .ok (.invokevirtual 52, 3) := by decide +kernel
theorem dX4_replace_5 : decode cX4_replace 5 = .ok (.astore 5, 2) := by decide +kernel
theorem dX4_replace_7 : decode cX4_replace 7 = .ok (.aload_n 0, 1) := by decide +kernel
theorem dX4_replace_8 : decode cX4_replace 8 = .ok (.iload 4, 2) := by decide +kernel
theorem dX4_replace_10 : decode cX4_replace 10 = .ok (.invokevirtual 97, 3) := by decide +kernel
theorem dX4_replace_13 : decode cX4_replace 13 = .ok (.astore 6, 2) := by decide +kernel
theorem dX4_replace_15 : decode cX4_replace 15 = .ok (.aload 5, 2) := by decide +kernel
theorem dX4_replace_17 : decode cX4_replace 17 = .ok (.ifnull 8, 3) := by decide +kernel
theorem dX4_replace_20 : decode cX4_replace 20 = .ok (.aload 6, 2) := by decide +kernel
theorem dX4_replace_22 : decode cX4_replace 22 = .ok (.ifnonnull 7, 3) := by decide +kernel
theorem dX4_replace_25 : decode cX4_replace 25 = .ok (.sipush (-1001), 3) := by decide +kernel
theorem dX4_replace_28 : decode cX4_replace 28 = .ok (.ireturn, 1) := by decide +kernel
theorem dX4_replace_29 : decode cX4_replace 29 = .ok (.aload 6, 2) := by decide +kernel
theorem dX4_replace_31 : decode cX4_replace 31 = .ok (.getfield 101, 3) := by decide +kernel
theorem dX4_replace_34 : decode cX4_replace 34 = .ok (.ifCond .eq 7, 3) := by decide +kernel
theorem dX4_replace_37 : decode cX4_replace 37 = .ok (.sipush (-1003), 3) := by decide +kernel
theorem dX4_replace_40 : decode cX4_replace 40 = .ok (.ireturn, 1) := by decide +kernel
theorem dX4_replace_41 : decode cX4_replace 41 = .ok (.aload 5, 2) := by decide +kernel
theorem dX4_replace_43 : decode cX4_replace 43 = .ok (.iload_n 2, 1) := by decide +kernel
theorem dX4_replace_44 : decode cX4_replace 44 = .ok (.iload_n 3, 1) := by decide +kernel
theorem dX4_replace_45 : decode cX4_replace 45 = .ok (.aload 6, 2) := by decide +kernel
theorem dX4_replace_47 : decode cX4_replace 47 = .ok (.getfield 105, 3) := by decide +kernel
theorem dX4_replace_50 : decode cX4_replace 50 = .ok (.invokevirtual 90, 3) := by decide +kernel
theorem dX4_replace_53 : decode cX4_replace 53 = .ok (.ireturn, 1) := by decide +kernel
theorem dX4_reverse_0 : decode cX4_reverse 0 = .ok (.aload_n 0, 1) := by decide +kernel
theorem dX4_reverse_1 : decode cX4_reverse 1 = .ok (.iload_n 1, 1) := by decide +kernel
theorem dX4_reverse_2 : decode cX4_reverse 2 = .ok (.invokevirtual 52, 3) := by decide +kernel
theorem dX4_reverse_5 : decode cX4_reverse 5 = .ok (.astore_n 2, 1) := by decide +kernel
theorem dX4_reverse_6 : decode cX4_reverse 6 = .ok (.aload_n 2, 1) := by decide +kernel
theorem dX4_reverse_7 : decode cX4_reverse 7 = .ok (.ifnonnull 7, 3) := by decide +kernel
theorem dX4_reverse_10 : decode cX4_reverse 10 = .ok (.sipush (-1001), 3) := by decide +kernel
theorem dX4_reverse_13 : decode cX4_reverse 13 = .ok (.ireturn, 1) := by decide +kernel
theorem dX4_reverse_14 : decode cX4_reverse 14 = .ok (.aload_n 2, 1) := by decide +kernel
theorem dX4_reverse_15 : decode cX4_reverse 15 = .ok (.invokevirtual 108, 3) := by decide +kernel
theorem dX4_reverse_18 : decode cX4_reverse 18 = .ok (.aload_n 2, 1) := by decide +kernel
theorem dX4_reverse_19 : decode cX4_reverse 19 = .ok (.getfield 60, 3) := by decide +kernel
theorem dX4_reverse_22 : decode cX4_reverse 22 = .ok (.ireturn, 1) := by decide +kernel
theorem dX4_put_0 : decode cX4_put 0 = .ok (.aload_n 0, 1) := by decide +kernel
theorem dX4_put_1 : decode cX4_put 1 = .ok (.iload_n 1, 1) := by decide +kernel
theorem dX4_put_2 : decode cX4_put 2 = .ok (.invokevirtual 52, 3) := by decide +kernel
theorem dX4_put_5 : decode cX4_put 5 = .ok (.astore 4, 2) := by decide +kernel
theorem dX4_put_7 : decode cX4_put 7 = .ok (.aload 4, 2) := by decide +kernel
theorem dX4_put_9 : decode cX4_put 9 = .ok (.ifnonnull 7, 3) := by decide +kernel
theorem dX4_put_12 : decode cX4_put 12 = .ok (.sipush (-1001), 3) := by decide +kernel
theorem dX4_put_15 : decode cX4_put 15 = .ok (.ireturn, 1) := by decide +kernel
theorem dX4_put_16 : decode cX4_put 16 = .ok (.iload_n 3, 1) := by decide +kernel
theorem dX4_put_17 : decode cX4_put 17 = .ok (.invokestatic 56, 3) := by decide +kernel
theorem dX4_put_20 : decode cX4_put 20 = .ok (.ifCond .ne 7, 3) := by decide +kernel
theorem dX4_put_23 : decode cX4_put 23 = .ok (.sipush (-1002), 3) := by decide +kernel
theorem dX4_put_26 : decode cX4_put 26 = .ok (.ireturn, 1) := by decide +kernel
theorem dX4_put_27 : decode cX4_put 27 = .ok (.aload 4, 2) := by decide +kernel
theorem dX4_put_29 : decode cX4_put 29 = .ok (.iload_n 2, 1) := by decide +kernel
theorem dX4_put_30 : decode cX4_put 30 = .ok (.invokevirtual 94, 3) := by decide +kernel
theorem dX4_put_33 : decode cX4_put 33 = .ok (.ifCond .ne 7, 3) := by decide +kernel
theorem dX4_put_36 : decode cX4_put 36 = .ok (.sipush (-1005), 3) := by decide +kernel
theorem dX4_put_39 : decode cX4_put 39 = .ok (.ireturn, 1) := by decide +kernel
theorem dX4_put_40 : decode cX4_put 40 = .ok (.aload 4, 2) := by decide +kernel
theorem dX4_put_42 : decode cX4_put 42 = .ok (.iload_n 2, 1) := by decide +kernel
theorem dX4_put_43 : decode cX4_put 43 = .ok (.invokevirtual 111, 3) := by decide +kernel
theorem dX4_put_46 : decode cX4_put 46 = .ok (.istore 5, 2) := by decide +kernel
theorem dX4_put_48 : decode cX4_put 48 = .ok (.aload 4, 2) := by decide +kernel
theorem dX4_put_50 : decode cX4_put 50 = .ok (.iload_n 2, 1) := by decide +kernel
theorem dX4_put_51 : decode cX4_put 51 = .ok (.iload_n 3, 1) := by decide +kernel
theorem dX4_put_52 : decode cX4_put 52 = .ok (.invokevirtual 115, 3) := by decide +kernel
theorem dX4_put_55 : decode cX4_put 55 = .ok (.iload 5, 2) := by decide +kernel
theorem dX4_put_57 : decode cX4_put 57 = .ok (.ireturn, 1) := by decide +kernel
theorem dX4_length_0 : decode cX4_length 0 = .ok (.aload_n 0, 1) := by decide +kernel
theorem dX4_length_1 : decode cX4_length 1 = .ok (.iload_n 1, 1) := by decide +kernel
theorem dX4_length_2 : decode cX4_length 2 = .ok (.invokevirtual 52, 3) := by decide +kernel
theorem dX4_length_5 : decode cX4_length 5 = .ok (.astore_n 3, 1) := by decide +kernel
theorem dX4_length_6 : decode cX4_length 6 = .ok (.aload_n 3, 1) := by decide +kernel
theorem dX4_length_7 : decode cX4_length 7 = .ok (.ifnonnull 7, 3) := by decide +kernel
theorem dX4_length_10 : decode cX4_length 10 = .ok (.sipush (-1001), 3) := by decide +kernel
theorem dX4_length_13 : decode cX4_length 13 = .ok (.ireturn, 1) := by decide +kernel
theorem dX4_length_14 : decode cX4_length 14 = .ok (.iload_n 2, 1) := by decide +kernel
theorem dX4_length_15 : decode cX4_length 15 = .ok (.ifCond .ge 7, 3) := by decide +kernel
theorem dX4_length_18 : decode cX4_length 18 = .ok (.sipush (-1004), 3) := by decide +kernel
theorem dX4_length_21 : decode cX4_length 21 = .ok (.ireturn, 1) := by decide +kernel
theorem dX4_length_22 : decode cX4_length 22 = .ok (.iload_n 2, 1) := by decide +kernel
theorem dX4_length_23 : decode cX4_length 23 = .ok (.sipush 200, 3) := by decide +kernel
theorem dX4_length_26 : decode cX4_length 26 = .ok (.if_icmp .le 7, 3) := by decide +kernel
theorem dX4_length_29 : decode cX4_length 29 = .ok (.sipush (-1007), 3) := by decide +kernel
theorem dX4_length_32 : decode cX4_length 32 = .ok (.ireturn, 1) := by decide +kernel
theorem dX4_length_33 : decode cX4_length 33 = .ok (.aload_n 3, 1) := by decide +kernel
theorem dX4_length_34 : decode cX4_length 34 = .ok (.getfield 60, 3) := by decide +kernel
theorem dX4_length_37 : decode cX4_length 37 = .ok (.istore 4, 2) := by decide +kernel
theorem dX4_length_39 : decode cX4_length 39 = .ok (.aload_n 3, 1) := by decide +kernel
theorem dX4_length_40 : decode cX4_length 40 = .ok (.iload_n 2, 1) := by decide +kernel
theorem dX4_length_41 : decode cX4_length 41 = .ok (.invokevirtual 119, 3) := by decide +kernel
theorem dX4_length_44 : decode cX4_length 44 = .ok (.iload 4, 2) := by decide +kernel
theorem dX4_length_46 : decode cX4_length 46 = .ok (.ireturn, 1) := by decide +kernel
theorem dX4_at_0 : decode cX4_at 0 = .ok (.aload_n 0, 1) := by decide +kernel
theorem dX4_at_1 : decode cX4_at 1 = .ok (.iload_n 1, 1) := by decide +kernel
theorem dX4_at_2 : decode cX4_at 2 = .ok (.invokevirtual 52, 3) := by decide +kernel
theorem dX4_at_5 : decode cX4_at 5 = .ok (.astore_n 3, 1) := by decide +kernel
theorem dX4_at_6 : decode cX4_at 6 = .ok (.aload_n 3, 1) := by decide +kernel
theorem dX4_at_7 : decode cX4_at 7 = .ok (.ifnonnull 7, 3) := by decide +kernel
theorem dX4_at_10 : decode cX4_at 10 = .ok (.sipush (-1001), 3) := by decide +kernel
theorem dX4_at_13 : decode cX4_at 13 = .ok (.ireturn, 1) := by decide +kernel
theorem dX4_at_14 : decode cX4_at 14 = .ok (.aload_n 3, 1) := by decide +kernel
theorem dX4_at_15 : decode cX4_at 15 = .ok (.iload_n 2, 1) := by decide +kernel
theorem dX4_at_16 : decode cX4_at 16 = .ok (.invokevirtual 94, 3) := by decide +kernel
theorem dX4_at_19 : decode cX4_at 19 = .ok (.ifCond .eq 11, 3) := by decide +kernel
theorem dX4_at_22 : decode cX4_at 22 = .ok (.aload_n 3, 1) := by decide +kernel
theorem dX4_at_23 : decode cX4_at 23 = .ok (.iload_n 2, 1) := by decide +kernel
theorem dX4_at_24 : decode cX4_at 24 = .ok (.invokevirtual 111, 3) := by decide +kernel
theorem dX4_at_27 : decode cX4_at 27 = .ok (.goto 6, 3) := by decide +kernel
theorem dX4_at_30 : decode cX4_at 30 = .ok (.sipush (-1005), 3) := by decide +kernel
theorem dX4_at_33 : decode cX4_at 33 = .ok (.ireturn, 1) := by decide +kernel
theorem dX4_size_0 : decode cX4_size 0 = .ok (.aload_n 0, 1) := by decide +kernel
theorem dX4_size_1 : decode cX4_size 1 = .ok (.iload_n 1, 1) := by decide +kernel
theorem dX4_size_2 : decode cX4_size 2 = .ok (.invokevirtual 52, 3) := by decide +kernel
theorem dX4_size_5 : decode cX4_size 5 = .ok (.astore_n 2, 1) := by decide +kernel
theorem dX4_size_6 : decode cX4_size 6 = .ok (.aload_n 2, 1) := by decide +kernel
theorem dX4_size_7 : decode cX4_size 7 = .ok (.ifnonnull 9, 3) := by decide +kernel
theorem dX4_size_10 : decode cX4_size 10 = .ok (.sipush (-1001), 3) := by decide +kernel
theorem dX4_size_13 : decode cX4_size 13 = .ok (.goto 7, 3) := by decide +kernel
theorem dX4_size_16 : decode cX4_size 16 = .ok (.aload_n 2, 1) := by decide +kernel
theorem dX4_size_17 : decode cX4_size 17 = .ok (.getfield 60, 3) := by decide +kernel
theorem dX4_size_20 : decode cX4_size 20 = .ok (.ireturn, 1) := by decide +kernel
theorem dX4_first_0 : decode cX4_first 0 = .ok (.aload_n 0, 1) := by decide +kernel
theorem dX4_first_1 : decode cX4_first 1 = .ok (.iload_n 1, 1) := by decide +kernel
theorem dX4_first_2 : decode cX4_first 2 = .ok (.invokevirtual 52, 3) := by decide +kernel
theorem dX4_first_5 : decode cX4_first 5 = .ok (.astore 4, 2) := by decide +kernel
theorem dX4_first_7 : decode cX4_first 7 = .ok (.aload_n 0, 1) := by decide +kernel
theorem dX4_first_8 : decode cX4_first 8 = .ok (.iload_n 2, 1) := by decide +kernel
theorem dX4_first_9 : decode cX4_first 9 = .ok (.invokevirtual 97, 3) := by decide +kernel
theorem dX4_first_12 : decode cX4_first 12 = .ok (.astore 5, 2) := by decide +kernel
theorem dX4_first_14 : decode cX4_first 14 = .ok (.aload 4, 2) := by decide +kernel
theorem dX4_first_16 : decode cX4_first 16 = .ok (.ifnull 8, 3) := by decide +kernel
theorem dX4_first_19 : decode cX4_first 19 = .ok (.aload 5, 2) := by decide +kernel
theorem dX4_first_21 : decode cX4_first 21 = .ok (.ifnonnull 7, 3) := by decide +kernel
theorem dX4_first_24 : decode cX4_first 24 = .ok (.sipush (-1001), 3) := by decide +kernel
theorem dX4_first_27 : decode cX4_first 27 = .ok (.ireturn, 1) := by decide +kernel
theorem dX4_first_28 : decode cX4_first 28 = .ok (.aload 5, 2) := by decide +kernel
theorem dX4_first_30 : decode cX4_first 30 = .ok (.getfield 101, 3) := by decide +kernel
theorem dX4_first_33 : decode cX4_first 33 = .ok (.ifCond .eq 9, 3) := by decide +kernel
theorem dX4_first_36 : decode cX4_first 36 = .ok (.sipush (-1003), 3) := by decide +kernel
theorem dX4_first_39 : decode cX4_first 39 = .ok (.goto 14, 3) := by decide +kernel
theorem dX4_first_42 : decode cX4_first 42 = .ok (.aload 4, 2) := by decide +kernel
theorem dX4_first_44 : decode cX4_first 44 = .ok (.aload 5, 2) := by decide +kernel
theorem dX4_first_46 : decode cX4_first 46 = .ok (.getfield 105, 3) := by decide +kernel
theorem dX4_first_49 : decode cX4_first 49 = .ok (.iload_n 3, 1) := by decide +kernel
theorem dX4_first_50 : decode cX4_first 50 = .ok (.invokevirtual 122, 3) := by decide +kernel
theorem dX4_first_53 : decode cX4_first 53 = .ok (.ireturn, 1) := by decide +kernel
theorem dX4_last_0 : decode cX4_last 0 = .ok (.aload_n 0, 1) := by decide +kernel
theorem dX4_last_1 : decode cX4_last 1 = .ok (.iload_n 1, 1) := by decide +kernel
theorem dX4_last_2 : decode cX4_last 2 = .ok (.invokevirtual 52, 3) := by decide +kernel
theorem dX4_last_5 : decode cX4_last 5 = .ok (.astore 4, 2) := by decide +kernel
theorem dX4_last_7 : decode cX4_last 7 = .ok (.aload_n 0, 1) := by decide +kernel
theorem dX4_last_8 : decode cX4_last 8 = .ok (.iload_n 2, 1) := by decide +kernel
theorem dX4_last_9 : decode cX4_last 9 = .ok (.invokevirtual 97, 3) := by decide +kernel
theorem dX4_last_12 : decode cX4_last 12 = .ok (.astore 5, 2) := by decide +kernel
theorem dX4_last_14 : decode cX4_last 14 = .ok (.aload 4, 2) := by decide +kernel
theorem dX4_last_16 : decode cX4_last 16 = .ok (.ifnull 8, 3) := by decide +kernel
theorem dX4_last_19 : decode cX4_last 19 = .ok (.aload 5, 2) := by decide +kernel
theorem dX4_last_21 : decode cX4_last 21 = .ok (.ifnonnull 7, 3) := by decide +kernel
theorem dX4_last_24 : decode cX4_last 24 = .ok (.sipush (-1001), 3) := by decide +kernel
theorem dX4_last_27 : decode cX4_last 27 = .ok (.ireturn, 1) := by decide +kernel
theorem dX4_last_28 : decode cX4_last 28 = .ok (.aload 5, 2) := by decide +kernel
theorem dX4_last_30 : decode cX4_last 30 = .ok (.getfield 101, 3) := by decide +kernel
theorem dX4_last_33 : decode cX4_last 33 = .ok (.ifCond .eq 9, 3) := by decide +kernel
theorem dX4_last_36 : decode cX4_last 36 = .ok (.sipush (-1003), 3) := by decide +kernel
theorem dX4_last_39 : decode cX4_last 39 = .ok (.goto 14, 3) := by decide +kernel
theorem dX4_last_42 : decode cX4_last 42 = .ok (.aload 4, 2) := by decide +kernel
theorem dX4_last_44 : decode cX4_last 44 = .ok (.aload 5, 2) := by decide +kernel
theorem dX4_last_46 : decode cX4_last 46 = .ok (.getfield 105, 3) := by decide +kernel
theorem dX4_last_49 : decode cX4_last 49 = .ok (.iload_n 3, 1) := by decide +kernel
theorem dX4_last_50 : decode cX4_last 50 = .ok (.invokevirtual 126, 3) := by decide +kernel
theorem dX4_last_53 : decode cX4_last 53 = .ok (.ireturn, 1) := by decide +kernel
theorem dX4_take_0 : decode cX4_take 0 = .ok (.aload_n 0, 1) := by decide +kernel
theorem dX4_take_1 : decode cX4_take 1 = .ok (.iload_n 1, 1) := by decide +kernel
theorem dX4_take_2 : decode cX4_take 2 = .ok (.invokevirtual 52, 3) := by decide +kernel
theorem dX4_take_5 : decode cX4_take 5 = .ok (.astore 5, 2) := by decide +kernel
theorem dX4_take_7 : decode cX4_take 7 = .ok (.aload_n 0, 1) := by decide +kernel
theorem dX4_take_8 : decode cX4_take 8 = .ok (.iload 4, 2) := by decide +kernel
theorem dX4_take_10 : decode cX4_take 10 = .ok (.invokevirtual 97, 3) := by decide +kernel
theorem dX4_take_13 : decode cX4_take 13 = .ok (.astore 6, 2) := by decide +kernel
theorem dX4_take_15 : decode cX4_take 15 = .ok (.aload 5, 2) := by decide +kernel
theorem dX4_take_17 : decode cX4_take 17 = .ok (.ifnull 8, 3) := by decide +kernel
theorem dX4_take_20 : decode cX4_take 20 = .ok (.aload 6, 2) := by decide +kernel
theorem dX4_take_22 : decode cX4_take 22 = .ok (.ifnonnull 7, 3) := by decide +kernel
theorem dX4_take_25 : decode cX4_take 25 = .ok (.sipush (-1001), 3) := by decide +kernel
theorem dX4_take_28 : decode cX4_take 28 = .ok (.ireturn, 1) := by decide +kernel
theorem dX4_take_29 : decode cX4_take 29 = .ok (.aload 6, 2) := by decide +kernel
theorem dX4_take_31 : decode cX4_take 31 = .ok (.aload 5, 2) := by decide +kernel
theorem dX4_take_33 : decode cX4_take 33 = .ok (.iload_n 2, 1) := by decide +kernel
theorem dX4_take_34 : decode cX4_take 34 = .ok (.iload_n 3, 1) := by decide +kernel
theorem dX4_take_35 : decode cX4_take 35 = .ok (.invokevirtual 129, 3) := by decide +kernel
theorem dX4_take_38 : decode cX4_take 38 = .ok (.ireturn, 1) := by decide +kernel
theorem dX4_ahead_0 : decode cX4_ahead 0 = .ok (.aload_n 0, 1) := by decide +kernel
theorem dX4_ahead_1 : decode cX4_ahead 1 = .ok (.iload_n 1, 1) := by decide +kernel
theorem dX4_ahead_2 : decode cX4_ahead 2 = .ok (.invokevirtual 52, 3) := by decide +kernel
theorem dX4_ahead_5 : decode cX4_ahead 5 = .ok (.astore_n 3, 1) := by decide +kernel
theorem dX4_ahead_6 : decode cX4_ahead 6 = .ok (.aload_n 0, 1) := by decide +kernel
theorem dX4_ahead_7 : decode cX4_ahead 7 = .ok (.iload_n 2, 1) := by decide +kernel
theorem dX4_ahead_8 : decode cX4_ahead 8 = .ok (.invokevirtual 52, 3) := by decide +kernel
theorem dX4_ahead_11 : decode cX4_ahead 11 = .ok (.astore 4, 2) := by decide +kernel
theorem dX4_ahead_13 : decode cX4_ahead 13 = .ok (.aload_n 3, 1) := by decide +kernel
theorem dX4_ahead_14 : decode cX4_ahead 14 = .ok (.ifnull 8, 3) := by decide +kernel
theorem dX4_ahead_17 : decode cX4_ahead 17 = .ok (.aload 4, 2) := by decide +kernel
theorem dX4_ahead_19 : decode cX4_ahead 19 = .ok (.ifnonnull 7, 3) := by decide +kernel
theorem dX4_ahead_22 : decode cX4_ahead 22 = .ok (.sipush (-1001), 3) := by decide +kernel
theorem dX4_ahead_25 : decode cX4_ahead 25 = .ok (.ireturn, 1) := by decide +kernel
theorem dX4_ahead_26 : decode cX4_ahead 26 = .ok (.aload_n 3, 1) := by decide +kernel
theorem dX4_ahead_27 : decode cX4_ahead 27 = .ok (.aload 4, 2) := by decide +kernel
theorem dX4_ahead_29 : decode cX4_ahead 29 = .ok (.invokevirtual 133, 3) := by decide +kernel
theorem dX4_ahead_32 : decode cX4_ahead 32 = .ok (.iconst 0, 1) := by decide +kernel
theorem dX4_ahead_33 : decode cX4_ahead 33 = .ok (.invokestatic 137, 3) := by decide +kernel
theorem dX4_ahead_36 : decode cX4_ahead 36 = .ok (.ireturn, 1) := by decide +kernel
theorem dX4_forget_0 : decode cX4_forget 0 = .ok (.aload_n 0, 1) := by decide +kernel
theorem dX4_forget_1 : decode cX4_forget 1 = .ok (.iload_n 1, 1) := by decide +kernel
theorem dX4_forget_2 : decode cX4_forget 2 = .ok (.invokevirtual 97, 3) := by decide +kernel
theorem dX4_forget_5 : decode cX4_forget 5 = .ok (.astore_n 2, 1) := by decide +kernel
theorem dX4_forget_6 : decode cX4_forget 6 = .ok (.aload_n 2, 1) := by decide +kernel
theorem dX4_forget_7 : decode cX4_forget 7 = .ok (.ifnonnull 7, 3) := by decide +kernel
theorem dX4_forget_10 : decode cX4_forget 10 = .ok (.sipush (-1001), 3) := by decide +kernel
theorem dX4_forget_13 : decode cX4_forget 13 = .ok (.ireturn, 1) := by decide +kernel
theorem dX4_forget_14 : decode cX4_forget 14 = .ok (.aload_n 2, 1) := by decide +kernel
theorem dX4_forget_15 : decode cX4_forget 15 = .ok (.getfield 101, 3) := by decide +kernel
theorem dX4_forget_18 : decode cX4_forget 18 = .ok (.ifCond .eq 5, 3) := by decide +kernel
theorem dX4_forget_21 : decode cX4_forget 21 = .ok (.iconst 0, 1) := by decide +kernel
theorem dX4_forget_22 : decode cX4_forget 22 = .ok (.ireturn, 1) := by decide +kernel
theorem dX4_forget_23 : decode cX4_forget 23 = .ok (.aload_n 2, 1) := by decide +kernel
theorem dX4_forget_24 : decode cX4_forget 24 = .ok (.iconst 1, 1) := by decide +kernel
theorem dX4_forget_25 : decode cX4_forget 25 = .ok (.putfield 101, 3) := by decide +kernel
theorem dX4_forget_28 : decode cX4_forget 28 = .ok (.iconst 1, 1) := by decide +kernel
theorem dX4_forget_29 : decode cX4_forget 29 = .ok (.ireturn, 1) := by decide +kernel
theorem dX4_textSize_0 : decode cX4_textSize 0 = .ok (.aload_n 0, 1) := by decide +kernel
theorem dX4_textSize_1 : decode cX4_textSize 1 = .ok (.iload_n 1, 1) := by decide +kernel
theorem dX4_textSize_2 : decode cX4_textSize 2 = .ok (.invokevirtual 97, 3) := by decide +kernel
theorem dX4_textSize_5 : decode cX4_textSize 5 = .ok (.astore_n 2, 1) := by decide +kernel
theorem dX4_textSize_6 : decode cX4_textSize 6 = .ok (.aload_n 2, 1) := by decide +kernel
theorem dX4_textSize_7 : decode cX4_textSize 7 = .ok (.ifnonnull 7, 3) := by decide +kernel
theorem dX4_textSize_10 : decode cX4_textSize 10 = .ok (.sipush (-1001), 3) := by decide +kernel
theorem dX4_textSize_13 : decode cX4_textSize 13 = .ok (.ireturn, 1) := by decide +kernel
theorem dX4_textSize_14 : decode cX4_textSize 14 = .ok (.aload_n 2, 1) := by decide +kernel
theorem dX4_textSize_15 : decode cX4_textSize 15 = .ok (.getfield 101, 3) := by decide +kernel
theorem dX4_textSize_18 : decode cX4_textSize 18 = .ok (.ifCond .eq 7, 3) := by decide +kernel
theorem dX4_textSize_21 : decode cX4_textSize 21 = .ok (.iconst (-1), 1) := by decide +kernel
theorem dX4_textSize_22 : decode cX4_textSize 22 = .ok (.goto 10, 3) := by decide +kernel
theorem dX4_textSize_25 : decode cX4_textSize 25 = .ok (.aload_n 2, 1) := by decide +kernel
theorem dX4_textSize_26 : decode cX4_textSize 26 = .ok (.getfield 105, 3) := by decide +kernel
theorem dX4_textSize_29 : decode cX4_textSize 29 = .ok (.getfield 60, 3) := by decide +kernel
theorem dX4_textSize_32 : decode cX4_textSize 32 = .ok (.ireturn, 1) := by decide +kernel
theorem dX4_signAt_0 : decode cX4_signAt 0 = .ok (.aload_n 0, 1) := by decide +kernel
theorem dX4_signAt_1 : decode cX4_signAt 1 = .ok (.iload_n 1, 1) := by decide +kernel
theorem dX4_signAt_2 : decode cX4_signAt 2 = .ok (.invokevirtual 97, 3) := by decide +kernel
theorem dX4_signAt_5 : decode cX4_signAt 5 = .ok (.astore_n 3, 1) := by decide +kernel
theorem dX4_signAt_6 : decode cX4_signAt 6 = .ok (.aload_n 3, 1) := by decide +kernel
theorem dX4_signAt_7 : decode cX4_signAt 7 = .ok (.ifnonnull 7, 3) := by decide +kernel
theorem dX4_signAt_10 : decode cX4_signAt 10 = .ok (.sipush (-1001), 3) := by decide +kernel
theorem dX4_signAt_13 : decode cX4_signAt 13 = .ok (.ireturn, 1) := by decide +kernel
theorem dX4_signAt_14 : decode cX4_signAt 14 = .ok (.aload_n 3, 1) := by decide +kernel
theorem dX4_signAt_15 : decode cX4_signAt 15 = .ok (.getfield 101, 3) := by decide +kernel
theorem dX4_signAt_18 : decode cX4_signAt 18 = .ok (.ifCond .eq 7, 3) := by decide +kernel
theorem dX4_signAt_21 : decode cX4_signAt 21 = .ok (.sipush (-1003), 3) := by decide +kernel
theorem dX4_signAt_24 : decode cX4_signAt 24 = .ok (.ireturn, 1) := by decide +kernel
theorem dX4_signAt_25 : decode cX4_signAt 25 = .ok (.aload_n 3, 1) := by decide +kernel
theorem dX4_signAt_26 : decode cX4_signAt 26 = .ok (.getfield 105, 3) := by decide +kernel
theorem dX4_signAt_29 : decode cX4_signAt 29 = .ok (.iload_n 2, 1) := by decide +kernel
theorem dX4_signAt_30 : decode cX4_signAt 30 = .ok (.invokevirtual 94, 3) := by decide +kernel
theorem dX4_signAt_33 : decode cX4_signAt 33 = .ok (.ifCond .eq 14, 3) := by decide +kernel
theorem dX4_signAt_36 : decode cX4_signAt 36 = .ok (.aload_n 3, 1) := by decide +kernel
theorem dX4_signAt_37 : decode cX4_signAt 37 = .ok (.getfield 105, 3) := by decide +kernel
theorem dX4_signAt_40 : decode cX4_signAt 40 = .ok (.iload_n 2, 1) := by decide +kernel
theorem dX4_signAt_41 : decode cX4_signAt 41 = .ok (.invokevirtual 111, 3) := by decide +kernel
theorem dX4_signAt_44 : decode cX4_signAt 44 = .ok (.goto 6, 3) := by decide +kernel
theorem dX4_signAt_47 : decode cX4_signAt 47 = .ok (.sipush (-1005), 3) := by decide +kernel
theorem dX4_signAt_50 : decode cX4_signAt 50 = .ok (.ireturn, 1) := by decide +kernel
theorem dX4_firstSign_0 : decode cX4_firstSign 0 = .ok (.aload_n 0, 1) := by decide +kernel
theorem dX4_firstSign_1 : decode cX4_firstSign 1 = .ok (.iload_n 1, 1) := by decide +kernel
theorem dX4_firstSign_2 : decode cX4_firstSign 2 = .ok (.invokevirtual 97, 3) := by decide +kernel
theorem dX4_firstSign_5 : decode cX4_firstSign 5 = .ok (.astore 4, 2) := by decide +kernel
theorem dX4_firstSign_7 : decode cX4_firstSign 7 = .ok (.aload 4, 2) := by decide +kernel
theorem dX4_firstSign_9 : decode cX4_firstSign 9 = .ok (.ifnonnull 7, 3) := by decide +kernel
theorem dX4_firstSign_12 : decode cX4_firstSign 12 = .ok (.sipush (-1001), 3) := by decide +kernel
theorem dX4_firstSign_15 : decode cX4_firstSign 15 = .ok (.ireturn, 1) := by decide +kernel
theorem dX4_firstSign_16 : decode cX4_firstSign 16 = .ok (.iload_n 2, 1) := by decide +kernel
theorem dX4_firstSign_17 : decode cX4_firstSign 17 = .ok (.invokestatic 56, 3) := by decide +kernel
theorem dX4_firstSign_20 : decode cX4_firstSign 20 = .ok (.ifCond .ne 7, 3) := by decide +kernel
theorem dX4_firstSign_23 : decode cX4_firstSign 23 = .ok (.sipush (-1002), 3) := by decide +kernel
theorem dX4_firstSign_26 : decode cX4_firstSign 26 = .ok (.ireturn, 1) := by decide +kernel
theorem dX4_firstSign_27 : decode cX4_firstSign 27 = .ok (.aload 4, 2) := by decide +kernel
theorem dX4_firstSign_29 : decode cX4_firstSign 29 = .ok (.getfield 101, 3) := by decide +kernel
theorem dX4_firstSign_32 : decode cX4_firstSign 32 = .ok (.ifCond .eq 9, 3) := by decide +kernel
theorem dX4_firstSign_35 : decode cX4_firstSign 35 = .ok (.sipush (-1003), 3) := by decide +kernel
theorem dX4_firstSign_38 : decode cX4_firstSign 38 = .ok (.goto 13, 3) := by decide +kernel
theorem dX4_firstSign_41 : decode cX4_firstSign 41 = .ok (.aload 4, 2) := by decide +kernel
theorem dX4_firstSign_43 : decode cX4_firstSign 43 = .ok (.getfield 105, 3) := by decide +kernel
theorem dX4_firstSign_46 : decode cX4_firstSign 46 = .ok (.iload_n 2, 1) := by decide +kernel
theorem dX4_firstSign_47 : decode cX4_firstSign 47 = .ok (.iload_n 3, 1) := by decide +kernel
theorem dX4_firstSign_48 : decode cX4_firstSign 48 = .ok (.invokevirtual 143, 3) := by decide +kernel
theorem dX4_firstSign_51 : decode cX4_firstSign 51 = .ok (.ireturn, 1) := by decide +kernel
theorem dX4_lastSign_0 : decode cX4_lastSign 0 = .ok (.aload_n 0, 1) := by decide +kernel
theorem dX4_lastSign_1 : decode cX4_lastSign 1 = .ok (.iload_n 1, 1) := by decide +kernel
theorem dX4_lastSign_2 : decode cX4_lastSign 2 = .ok (.invokevirtual 97, 3) := by decide +kernel
theorem dX4_lastSign_5 : decode cX4_lastSign 5 = .ok (.astore 4, 2) := by decide +kernel
theorem dX4_lastSign_7 : decode cX4_lastSign 7 = .ok (.aload 4, 2) := by decide +kernel
theorem dX4_lastSign_9 : decode cX4_lastSign 9 = .ok (.ifnonnull 7, 3) := by decide +kernel
theorem dX4_lastSign_12 : decode cX4_lastSign 12 = .ok (.sipush (-1001), 3) := by decide +kernel
theorem dX4_lastSign_15 : decode cX4_lastSign 15 = .ok (.ireturn, 1) := by decide +kernel
theorem dX4_lastSign_16 : decode cX4_lastSign 16 = .ok (.iload_n 2, 1) := by decide +kernel
theorem dX4_lastSign_17 : decode cX4_lastSign 17 = .ok (.invokestatic 56, 3) := by decide +kernel
theorem dX4_lastSign_20 : decode cX4_lastSign 20 = .ok (.ifCond .ne 7, 3) := by decide +kernel
theorem dX4_lastSign_23 : decode cX4_lastSign 23 = .ok (.sipush (-1002), 3) := by decide +kernel
theorem dX4_lastSign_26 : decode cX4_lastSign 26 = .ok (.ireturn, 1) := by decide +kernel
theorem dX4_lastSign_27 : decode cX4_lastSign 27 = .ok (.aload 4, 2) := by decide +kernel
theorem dX4_lastSign_29 : decode cX4_lastSign 29 = .ok (.getfield 101, 3) := by decide +kernel
theorem dX4_lastSign_32 : decode cX4_lastSign 32 = .ok (.ifCond .eq 9, 3) := by decide +kernel
theorem dX4_lastSign_35 : decode cX4_lastSign 35 = .ok (.sipush (-1003), 3) := by decide +kernel
theorem dX4_lastSign_38 : decode cX4_lastSign 38 = .ok (.goto 13, 3) := by decide +kernel
theorem dX4_lastSign_41 : decode cX4_lastSign 41 = .ok (.aload 4, 2) := by decide +kernel
theorem dX4_lastSign_43 : decode cX4_lastSign 43 = .ok (.getfield 105, 3) := by decide +kernel
theorem dX4_lastSign_46 : decode cX4_lastSign 46 = .ok (.iload_n 2, 1) := by decide +kernel
theorem dX4_lastSign_47 : decode cX4_lastSign 47 = .ok (.iload_n 3, 1) := by decide +kernel
theorem dX4_lastSign_48 : decode cX4_lastSign 48 = .ok (.invokevirtual 146, 3) := by decide +kernel
theorem dX4_lastSign_51 : decode cX4_lastSign 51 = .ok (.ireturn, 1) := by decide +kernel
theorem dX4_firstText_0 : decode cX4_firstText 0 = .ok (.aload_n 0, 1) := by decide +kernel
theorem dX4_firstText_1 : decode cX4_firstText 1 = .ok (.iload_n 1, 1) := by decide +kernel
theorem dX4_firstText_2 : decode cX4_firstText 2 = .ok (.invokevirtual 97, 3) := by decide +kernel
theorem dX4_firstText_5 : decode cX4_firstText 5 = .ok (.astore 4, 2) := by decide +kernel
theorem dX4_firstText_7 : decode cX4_firstText 7 = .ok (.aload_n 0, 1) := by decide +kernel
theorem dX4_firstText_8 : decode cX4_firstText 8 = .ok (.iload_n 2, 1) := by decide +kernel
theorem dX4_firstText_9 : decode cX4_firstText 9 = .ok (.invokevirtual 97, 3) := by decide +kernel
theorem dX4_firstText_12 : decode cX4_firstText 12 = .ok (.astore 5, 2) := by decide +kernel
theorem dX4_firstText_14 : decode cX4_firstText 14 = .ok (.aload 4, 2) := by decide +kernel
theorem dX4_firstText_16 : decode cX4_firstText 16 = .ok (.ifnull 8, 3) := by decide +kernel
theorem dX4_firstText_19 : decode cX4_firstText 19 = .ok (.aload 5, 2) := by decide +kernel
theorem dX4_firstText_21 : decode cX4_firstText 21 = .ok (.ifnonnull 7, 3) := by decide +kernel
theorem dX4_firstText_24 : decode cX4_firstText 24 = .ok (.sipush (-1001), 3) := by decide +kernel
theorem dX4_firstText_27 : decode cX4_firstText 27 = .ok (.ireturn, 1) := by decide +kernel
theorem dX4_firstText_28 : decode cX4_firstText 28 = .ok (.aload 4, 2) := by decide +kernel
theorem dX4_firstText_30 : decode cX4_firstText 30 = .ok (.getfield 101, 3) := by decide +kernel
theorem dX4_firstText_33 : decode cX4_firstText 33 = .ok (.ifCond .ne 11, 3) := by decide +kernel
theorem dX4_firstText_36 : decode cX4_firstText 36 = .ok (.aload 5, 2) := by decide +kernel
theorem dX4_firstText_38 : decode cX4_firstText 38 = .ok (.getfield 101, 3) := by decide +kernel
theorem dX4_firstText_41 : decode cX4_firstText 41 = .ok (.ifCond .eq 7, 3) := by decide +kernel
theorem dX4_firstText_44 : decode cX4_firstText 44 = .ok (.sipush (-1003), 3) := by decide +kernel
theorem dX4_firstText_47 : decode cX4_firstText 47 = .ok (.ireturn, 1) := by decide +kernel
theorem dX4_firstText_48 : decode cX4_firstText 48 = .ok (.aload 4, 2) := by decide +kernel
theorem dX4_firstText_50 : decode cX4_firstText 50 = .ok (.getfield 105, 3) := by decide +kernel
theorem dX4_firstText_53 : decode cX4_firstText 53 = .ok (.aload 5, 2) := by decide +kernel
theorem dX4_firstText_55 : decode cX4_firstText 55 = .ok (.getfield 105, 3) := by decide +kernel
theorem dX4_firstText_58 : decode cX4_firstText 58 = .ok (.iload_n 3, 1) := by decide +kernel
theorem dX4_firstText_59 : decode cX4_firstText 59 = .ok (.invokevirtual 122, 3) := by decide +kernel
theorem dX4_firstText_62 : decode cX4_firstText 62 = .ok (.ireturn, 1) := by decide +kernel
theorem dX4_lastText_0 : decode cX4_lastText 0 = .ok (.aload_n 0, 1) := by decide +kernel
theorem dX4_lastText_1 : decode cX4_lastText 1 = .ok (.iload_n 1, 1) := by decide +kernel
theorem dX4_lastText_2 : decode cX4_lastText 2 = .ok (.invokevirtual 97, 3) := by decide +kernel
theorem dX4_lastText_5 : decode cX4_lastText 5 = .ok (.astore 4, 2) := by decide +kernel
theorem dX4_lastText_7 : decode cX4_lastText 7 = .ok (.aload_n 0, 1) := by decide +kernel
theorem dX4_lastText_8 : decode cX4_lastText 8 = .ok (.iload_n 2, 1) := by decide +kernel
theorem dX4_lastText_9 : decode cX4_lastText 9 = .ok (.invokevirtual 97, 3) := by decide +kernel
theorem dX4_lastText_12 : decode cX4_lastText 12 = .ok (.astore 5, 2) := by decide +kernel
theorem dX4_lastText_14 : decode cX4_lastText 14 = .ok (.aload 4, 2) := by decide +kernel
theorem dX4_lastText_16 : decode cX4_lastText 16 = .ok (.ifnull 8, 3) := by decide +kernel
theorem dX4_lastText_19 : decode cX4_lastText 19 = .ok (.aload 5, 2) := by decide +kernel
theorem dX4_lastText_21 : decode cX4_lastText 21 = .ok (.ifnonnull 7, 3) := by decide +kernel
theorem dX4_lastText_24 : decode cX4_lastText 24 = .ok (.sipush (-1001), 3) := by decide +kernel
theorem dX4_lastText_27 : decode cX4_lastText 27 = .ok (.ireturn, 1) := by decide +kernel
theorem dX4_lastText_28 : decode cX4_lastText 28 = .ok (.aload 4, 2) := by decide +kernel
theorem dX4_lastText_30 : decode cX4_lastText 30 = .ok (.getfield 101, 3) := by decide +kernel
theorem dX4_lastText_33 : decode cX4_lastText 33 = .ok (.ifCond .ne 11, 3) := by decide +kernel
theorem dX4_lastText_36 : decode cX4_lastText 36 = .ok (.aload 5, 2) := by decide +kernel
theorem dX4_lastText_38 : decode cX4_lastText 38 = .ok (.getfield 101, 3) := by decide +kernel
theorem dX4_lastText_41 : decode cX4_lastText 41 = .ok (.ifCond .eq 7, 3) := by decide +kernel
theorem dX4_lastText_44 : decode cX4_lastText 44 = .ok (.sipush (-1003), 3) := by decide +kernel
theorem dX4_lastText_47 : decode cX4_lastText 47 = .ok (.ireturn, 1) := by decide +kernel
theorem dX4_lastText_48 : decode cX4_lastText 48 = .ok (.aload 4, 2) := by decide +kernel
theorem dX4_lastText_50 : decode cX4_lastText 50 = .ok (.getfield 105, 3) := by decide +kernel
theorem dX4_lastText_53 : decode cX4_lastText 53 = .ok (.aload 5, 2) := by decide +kernel
theorem dX4_lastText_55 : decode cX4_lastText 55 = .ok (.getfield 105, 3) := by decide +kernel
theorem dX4_lastText_58 : decode cX4_lastText 58 = .ok (.iload_n 3, 1) := by decide +kernel
theorem dX4_lastText_59 : decode cX4_lastText 59 = .ok (.invokevirtual 126, 3) := by decide +kernel
theorem dX4_lastText_62 : decode cX4_lastText 62 = .ok (.ireturn, 1) := by decide +kernel
theorem dX4_region_0 : decode cX4_region 0 = .ok (.aload_n 0, 1) := by decide +kernel
theorem dX4_region_1 : decode cX4_region 1 = .ok (.iload_n 1, 1) := by decide +kernel
theorem dX4_region_2 : decode cX4_region 2 = .ok (.invokevirtual 97, 3) := by decide +kernel
theorem dX4_region_5 : decode cX4_region 5 = .ok (.astore 6, 2) := by decide +kernel
theorem dX4_region_7 : decode cX4_region 7 = .ok (.aload_n 0, 1) := by decide +kernel
theorem dX4_region_8 : decode cX4_region 8 = .ok (.iload_n 3, 1) := by decide +kernel
theorem dX4_region_9 : decode cX4_region 9 = .ok (.invokevirtual 97, 3) := by decide +kernel
theorem dX4_region_12 : decode cX4_region 12 = .ok (.astore 7, 2) := by decide +kernel
theorem dX4_region_14 : decode cX4_region 14 = .ok (.aload 6, 2) := by decide +kernel
theorem dX4_region_16 : decode cX4_region 16 = .ok (.ifnull 8, 3) := by decide +kernel
theorem dX4_region_19 : decode cX4_region 19 = .ok (.aload 7, 2) := by decide +kernel
theorem dX4_region_21 : decode cX4_region 21 = .ok (.ifnonnull 7, 3) := by decide +kernel
theorem dX4_region_24 : decode cX4_region 24 = .ok (.sipush (-1001), 3) := by decide +kernel
theorem dX4_region_27 : decode cX4_region 27 = .ok (.ireturn, 1) := by decide +kernel
theorem dX4_region_28 : decode cX4_region 28 = .ok (.aload 6, 2) := by decide +kernel
theorem dX4_region_30 : decode cX4_region 30 = .ok (.getfield 101, 3) := by decide +kernel
theorem dX4_region_33 : decode cX4_region 33 = .ok (.ifCond .ne 11, 3) := by decide +kernel
theorem dX4_region_36 : decode cX4_region 36 = .ok (.aload 7, 2) := by decide +kernel
theorem dX4_region_38 : decode cX4_region 38 = .ok (.getfield 101, 3) := by decide +kernel
theorem dX4_region_41 : decode cX4_region 41 = .ok (.ifCond .eq 7, 3) := by decide +kernel
theorem dX4_region_44 : decode cX4_region 44 = .ok (.sipush (-1003), 3) := by decide +kernel
theorem dX4_region_47 : decode cX4_region 47 = .ok (.ireturn, 1) := by decide +kernel
theorem dX4_region_48 : decode cX4_region 48 = .ok (.aload 6, 2) := by decide +kernel
theorem dX4_region_50 : decode cX4_region 50 = .ok (.getfield 105, 3) := by decide +kernel
theorem dX4_region_53 : decode cX4_region 53 = .ok (.iload_n 2, 1) := by decide +kernel
theorem dX4_region_54 : decode cX4_region 54 = .ok (.aload 7, 2) := by decide +kernel
theorem dX4_region_56 : decode cX4_region 56 = .ok (.getfield 105, 3) := by decide +kernel
theorem dX4_region_59 : decode cX4_region 59 = .ok (.iload 4, 2) := by decide +kernel
theorem dX4_region_61 : decode cX4_region 61 = .ok (.iload 5, 2) := by decide +kernel
theorem dX4_region_63 : decode cX4_region 63 = .ok (.invokevirtual 149, 3) := by decide +kernel
theorem dX4_region_66 : decode cX4_region 66 = .ok (.ifCond .eq 7, 3) := by decide +kernel
theorem dX4_region_69 : decode cX4_region 69 = .ok (.iconst 1, 1) := by decide +kernel
theorem dX4_region_70 : decode cX4_region 70 = .ok (.goto 4, 3) := by decide +kernel
theorem dX4_region_73 : decode cX4_region 73 = .ok (.iconst 0, 1) := by decide +kernel
theorem dX4_region_74 : decode cX4_region 74 = .ok (.ireturn, 1) := by decide +kernel
theorem dX4_order_0 : decode cX4_order 0 = .ok (.aload_n 0, 1) := by decide +kernel
theorem dX4_order_1 : decode cX4_order 1 = .ok (.iload_n 1, 1) := by decide +kernel
theorem dX4_order_2 : decode cX4_order 2 = .ok (.invokevirtual 97, 3) := by decide +kernel
theorem dX4_order_5 : decode cX4_order 5 = .ok (.astore_n 3, 1) := by decide +kernel
theorem dX4_order_6 : decode cX4_order 6 = .ok (.aload_n 0, 1) := by decide +kernel
theorem dX4_order_7 : decode cX4_order 7 = .ok (.iload_n 2, 1) := by decide +kernel
theorem dX4_order_8 : decode cX4_order 8 = .ok (.invokevirtual 97, 3) := by decide +kernel
theorem dX4_order_11 : decode cX4_order 11 = .ok (.astore 4, 2) := by decide +kernel
theorem dX4_order_13 : decode cX4_order 13 = .ok (.aload_n 3, 1) := by decide +kernel
theorem dX4_order_14 : decode cX4_order 14 = .ok (.ifnull 8, 3) := by decide +kernel
theorem dX4_order_17 : decode cX4_order 17 = .ok (.aload 4, 2) := by decide +kernel
theorem dX4_order_19 : decode cX4_order 19 = .ok (.ifnonnull 7, 3) := by decide +kernel
theorem dX4_order_22 : decode cX4_order 22 = .ok (.sipush (-1001), 3) := by decide +kernel
theorem dX4_order_25 : decode cX4_order 25 = .ok (.ireturn, 1) := by decide +kernel
theorem dX4_order_26 : decode cX4_order 26 = .ok (.aload_n 3, 1) := by decide +kernel
theorem dX4_order_27 : decode cX4_order 27 = .ok (.getfield 101, 3) := by decide +kernel
theorem dX4_order_30 : decode cX4_order 30 = .ok (.ifCond .ne 11, 3) := by decide +kernel
theorem dX4_order_33 : decode cX4_order 33 = .ok (.aload 4, 2) := by decide +kernel
theorem dX4_order_35 : decode cX4_order 35 = .ok (.getfield 101, 3) := by decide +kernel
theorem dX4_order_38 : decode cX4_order 38 = .ok (.ifCond .eq 7, 3) := by decide +kernel
theorem dX4_order_41 : decode cX4_order 41 = .ok (.sipush (-1003), 3) := by decide +kernel
theorem dX4_order_44 : decode cX4_order 44 = .ok (.ireturn, 1) := by decide +kernel
theorem dX4_order_45 : decode cX4_order 45 = .ok (.aload_n 3, 1) := by decide +kernel
theorem dX4_order_46 : decode cX4_order 46 = .ok (.getfield 105, 3) := by decide +kernel
theorem dX4_order_49 : decode cX4_order 49 = .ok (.aload 4, 2) := by decide +kernel
theorem dX4_order_51 : decode cX4_order 51 = .ok (.getfield 105, 3) := by decide +kernel
theorem dX4_order_54 : decode cX4_order 54 = .ok (.invokevirtual 133, 3) := by decide +kernel
theorem dX4_order_57 : decode cX4_order 57 = .ok (.ireturn, 1) := by decide +kernel
theorem dX4_begins_0 : decode cX4_begins 0 = .ok (.aload_n 0, 1) := by decide +kernel
theorem dX4_begins_1 : decode cX4_begins 1 = .ok (.iload_n 1, 1) := by decide +kernel
theorem dX4_begins_2 : decode cX4_begins 2 = .ok (.invokevirtual 97, 3) := by decide +kernel
theorem dX4_begins_5 : decode cX4_begins 5 = .ok (.astore 4, 2) := by decide +kernel
theorem dX4_begins_7 : decode cX4_begins 7 = .ok (.aload_n 0, 1) := by decide +kernel
theorem dX4_begins_8 : decode cX4_begins 8 = .ok (.iload_n 2, 1) := by decide +kernel
theorem dX4_begins_9 : decode cX4_begins 9 = .ok (.invokevirtual 97, 3) := by decide +kernel
theorem dX4_begins_12 : decode cX4_begins 12 = .ok (.astore 5, 2) := by decide +kernel
theorem dX4_begins_14 : decode cX4_begins 14 = .ok (.aload 4, 2) := by decide +kernel
theorem dX4_begins_16 : decode cX4_begins 16 = .ok (.ifnull 8, 3) := by decide +kernel
theorem dX4_begins_19 : decode cX4_begins 19 = .ok (.aload 5, 2) := by decide +kernel
theorem dX4_begins_21 : decode cX4_begins 21 = .ok (.ifnonnull 7, 3) := by decide +kernel
theorem dX4_begins_24 : decode cX4_begins 24 = .ok (.sipush (-1001), 3) := by decide +kernel
theorem dX4_begins_27 : decode cX4_begins 27 = .ok (.ireturn, 1) := by decide +kernel
theorem dX4_begins_28 : decode cX4_begins 28 = .ok (.aload 4, 2) := by decide +kernel
theorem dX4_begins_30 : decode cX4_begins 30 = .ok (.getfield 101, 3) := by decide +kernel
theorem dX4_begins_33 : decode cX4_begins 33 = .ok (.ifCond .ne 11, 3) := by decide +kernel
theorem dX4_begins_36 : decode cX4_begins 36 = .ok (.aload 5, 2) := by decide +kernel
theorem dX4_begins_38 : decode cX4_begins 38 = .ok (.getfield 101, 3) := by decide +kernel
theorem dX4_begins_41 : decode cX4_begins 41 = .ok (.ifCond .eq 7, 3) := by decide +kernel
theorem dX4_begins_44 : decode cX4_begins 44 = .ok (.sipush (-1003), 3) := by decide +kernel
theorem dX4_begins_47 : decode cX4_begins 47 = .ok (.ireturn, 1) := by decide +kernel
theorem dX4_begins_48 : decode cX4_begins 48 = .ok (.aload 4, 2) := by decide +kernel
theorem dX4_begins_50 : decode cX4_begins 50 = .ok (.getfield 105, 3) := by decide +kernel
theorem dX4_begins_53 : decode cX4_begins 53 = .ok (.aload 5, 2) := by decide +kernel
theorem dX4_begins_55 : decode cX4_begins 55 = .ok (.getfield 105, 3) := by decide +kernel
theorem dX4_begins_58 : decode cX4_begins 58 = .ok (.iload_n 3, 1) := by decide +kernel
theorem dX4_begins_59 : decode cX4_begins 59 = .ok (.invokevirtual 153, 3) := by decide +kernel
theorem dX4_begins_62 : decode cX4_begins 62 = .ok (.ifCond .eq 7, 3) := by decide +kernel
theorem dX4_begins_65 : decode cX4_begins 65 = .ok (.iconst 1, 1) := by decide +kernel
theorem dX4_begins_66 : decode cX4_begins 66 = .ok (.goto 4, 3) := by decide +kernel
theorem dX4_begins_69 : decode cX4_begins 69 = .ok (.iconst 0, 1) := by decide +kernel
theorem dX4_begins_70 : decode cX4_begins 70 = .ok (.ireturn, 1) := by decide +kernel
theorem dX4_swap_0 : decode cX4_swap 0 = .ok (.aload_n 0, 1) := by decide +kernel
theorem dX4_swap_1 : decode cX4_swap 1 = .ok (.iload_n 1, 1) := by decide +kernel
theorem dX4_swap_2 : decode cX4_swap 2 = .ok (.invokevirtual 97, 3) := by decide +kernel
theorem dX4_swap_5 : decode cX4_swap 5 = .ok (.astore 5, 2) := by decide +kernel
theorem dX4_swap_7 : decode cX4_swap 7 = .ok (.aload_n 0, 1) := by decide +kernel
theorem dX4_swap_8 : decode cX4_swap 8 = .ok (.iload 4, 2) := by decide +kernel
theorem dX4_swap_10 : decode cX4_swap 10 = .ok (.invokevirtual 97, 3) := by decide +kernel
theorem dX4_swap_13 : decode cX4_swap 13 = .ok (.astore 6, 2) := by decide +kernel
theorem dX4_swap_15 : decode cX4_swap 15 = .ok (.aload 5, 2) := by decide +kernel
theorem dX4_swap_17 : decode cX4_swap 17 = .ok (.ifnull 8, 3) := by decide +kernel
theorem dX4_swap_20 : decode cX4_swap 20 = .ok (.aload 6, 2) := by decide +kernel
theorem dX4_swap_22 : decode cX4_swap 22 = .ok (.ifnonnull 7, 3) := by decide +kernel
theorem dX4_swap_25 : decode cX4_swap 25 = .ok (.sipush (-1001), 3) := by decide +kernel
theorem dX4_swap_28 : decode cX4_swap 28 = .ok (.ireturn, 1) := by decide +kernel
theorem dX4_swap_29 : decode cX4_swap 29 = .ok (.iload_n 2, 1) := by decide +kernel
theorem dX4_swap_30 : decode cX4_swap 30 = .ok (.invokestatic 56, 3) := by decide +kernel
theorem dX4_swap_33 : decode cX4_swap 33 = .ok (.ifCond .eq 10, 3) := by decide +kernel
theorem dX4_swap_36 : decode cX4_swap 36 = .ok (.iload_n 3, 1) := by decide +kernel
theorem dX4_swap_37 : decode cX4_swap 37 = .ok (.invokestatic 56, 3) := by decide +kernel
theorem dX4_swap_40 : decode cX4_swap 40 = .ok (.ifCond .ne 7, 3) := by decide +kernel
theorem dX4_swap_43 : decode cX4_swap 43 = .ok (.sipush (-1002), 3) := by decide +kernel
theorem dX4_swap_46 : decode cX4_swap 46 = .ok (.ireturn, 1) := by decide +kernel
theorem dX4_swap_47 : decode cX4_swap 47 = .ok (.aload 5, 2) := by decide +kernel
theorem dX4_swap_49 : decode cX4_swap 49 = .ok (.getfield 101, 3) := by decide +kernel
theorem dX4_swap_52 : decode cX4_swap 52 = .ok (.ifCond .eq 7, 3) := by decide +kernel
theorem dX4_swap_55 : decode cX4_swap 55 = .ok (.sipush (-1003), 3) := by decide +kernel
theorem dX4_swap_58 : decode cX4_swap 58 = .ok (.ireturn, 1) := by decide +kernel
theorem dX4_swap_59 : decode cX4_swap 59 = .ok (.aload 6, 2) := by decide +kernel
theorem dX4_swap_61 : decode cX4_swap 61 = .ok (.aload 5, 2) := by decide +kernel
theorem dX4_swap_63 : decode cX4_swap 63 = .ok (.getfield 105, 3) := by decide +kernel
theorem dX4_swap_66 : decode cX4_swap 66 = .ok (.iconst 0, 1) := by decide +kernel
theorem dX4_swap_67 : decode cX4_swap 67 = .ok (.aload 5, 2) := by decide +kernel
theorem dX4_swap_69 : decode cX4_swap 69 = .ok (.getfield 105, 3) := by decide +kernel
theorem dX4_swap_72 : decode cX4_swap 72 = .ok (.getfield 60, 3) := by decide +kernel
theorem dX4_swap_75 : decode cX4_swap 75 = .ok (.invokevirtual 129, 3) := by decide +kernel
theorem dX4_swap_78 : decode cX4_swap 78 = .ok (.pop, 1) := by decide +kernel
theorem dX4_swap_79 : decode cX4_swap 79 = .ok (.aload 6, 2) := by decide +kernel
theorem dX4_swap_81 : decode cX4_swap 81 = .ok (.getfield 105, 3) := by decide +kernel
theorem dX4_swap_84 : decode cX4_swap 84 = .ok (.iload_n 2, 1) := by decide +kernel
theorem dX4_swap_85 : decode cX4_swap 85 = .ok (.iload_n 3, 1) := by decide +kernel
theorem dX4_swap_86 : decode cX4_swap 86 = .ok (.invokevirtual 157, 3) := by decide +kernel
theorem dX4_swap_89 : decode cX4_swap 89 = .ok (.aload 6, 2) := by decide +kernel
theorem dX4_swap_91 : decode cX4_swap 91 = .ok (.getfield 105, 3) := by decide +kernel
theorem dX4_swap_94 : decode cX4_swap 94 = .ok (.getfield 60, 3) := by decide +kernel
theorem dX4_swap_97 : decode cX4_swap 97 = .ok (.ireturn, 1) := by decide +kernel
theorem dX4_sub_0 : decode cX4_sub 0 = .ok (.aload_n 0, 1) := by decide +kernel
theorem dX4_sub_1 : decode cX4_sub 1 = .ok (.iload_n 1, 1) := by decide +kernel
theorem dX4_sub_2 : decode cX4_sub 2 = .ok (.invokevirtual 97, 3) := by decide +kernel
theorem dX4_sub_5 : decode cX4_sub 5 = .ok (.astore 5, 2) := by decide +kernel
theorem dX4_sub_7 : decode cX4_sub 7 = .ok (.aload_n 0, 1) := by decide +kernel
theorem dX4_sub_8 : decode cX4_sub 8 = .ok (.iload 4, 2) := by decide +kernel
theorem dX4_sub_10 : decode cX4_sub 10 = .ok (.invokevirtual 97, 3) := by decide +kernel
theorem dX4_sub_13 : decode cX4_sub 13 = .ok (.astore 6, 2) := by decide +kernel
theorem dX4_sub_15 : decode cX4_sub 15 = .ok (.aload 5, 2) := by decide +kernel
theorem dX4_sub_17 : decode cX4_sub 17 = .ok (.ifnull 8, 3) := by decide +kernel
theorem dX4_sub_20 : decode cX4_sub 20 = .ok (.aload 6, 2) := by decide +kernel
theorem dX4_sub_22 : decode cX4_sub 22 = .ok (.ifnonnull 7, 3) := by decide +kernel
theorem dX4_sub_25 : decode cX4_sub 25 = .ok (.sipush (-1001), 3) := by decide +kernel
theorem dX4_sub_28 : decode cX4_sub 28 = .ok (.ireturn, 1) := by decide +kernel
theorem dX4_sub_29 : decode cX4_sub 29 = .ok (.aload 5, 2) := by decide +kernel
theorem dX4_sub_31 : decode cX4_sub 31 = .ok (.getfield 101, 3) := by decide +kernel
theorem dX4_sub_34 : decode cX4_sub 34 = .ok (.ifCond .eq 9, 3) := by decide +kernel
theorem dX4_sub_37 : decode cX4_sub 37 = .ok (.sipush (-1003), 3) := by decide +kernel
theorem dX4_sub_40 : decode cX4_sub 40 = .ok (.goto 15, 3) := by decide +kernel
theorem dX4_sub_43 : decode cX4_sub 43 = .ok (.aload 6, 2) := by decide +kernel
theorem dX4_sub_45 : decode cX4_sub 45 = .ok (.aload 5, 2) := by decide +kernel
theorem dX4_sub_47 : decode cX4_sub 47 = .ok (.getfield 105, 3) := by decide +kernel
theorem dX4_sub_50 : decode cX4_sub 50 = .ok (.iload_n 2, 1) := by decide +kernel
theorem dX4_sub_51 : decode cX4_sub 51 = .ok (.iload_n 3, 1) := by decide +kernel
theorem dX4_sub_52 : decode cX4_sub 52 = .ok (.invokevirtual 129, 3) := by decide +kernel
theorem dX4_sub_55 : decode cX4_sub 55 = .ok (.ireturn, 1) := by decide +kernel
theorem dX4_trim_0 : decode cX4_trim 0 = .ok (.aload_n 0, 1) := by decide +kernel
theorem dX4_trim_1 : decode cX4_trim 1 = .ok (.iload_n 1, 1) := by decide +kernel
theorem dX4_trim_2 : decode cX4_trim 2 = .ok (.invokevirtual 97, 3) := by decide +kernel
theorem dX4_trim_5 : decode cX4_trim 5 = .ok (.astore_n 3, 1) := by decide +kernel
theorem dX4_trim_6 : decode cX4_trim 6 = .ok (.aload_n 0, 1) := by decide +kernel
theorem dX4_trim_7 : decode cX4_trim 7 = .ok (.iload_n 2, 1) := by decide +kernel
theorem dX4_trim_8 : decode cX4_trim 8 = .ok (.invokevirtual 97, 3) := by decide +kernel
theorem dX4_trim_11 : decode cX4_trim 11 = .ok (.astore 4, 2) := by decide +kernel
theorem dX4_trim_13 : decode cX4_trim 13 = .ok (.aload_n 3, 1) := by decide +kernel
theorem dX4_trim_14 : decode cX4_trim 14 = .ok (.ifnull 8, 3) := by decide +kernel
theorem dX4_trim_17 : decode cX4_trim 17 = .ok (.aload 4, 2) := by decide +kernel
theorem dX4_trim_19 : decode cX4_trim 19 = .ok (.ifnonnull 7, 3) := by decide +kernel
theorem dX4_trim_22 : decode cX4_trim 22 = .ok (.sipush (-1001), 3) := by decide +kernel
theorem dX4_trim_25 : decode cX4_trim 25 = .ok (.ireturn, 1) := by decide +kernel
theorem dX4_trim_26 : decode cX4_trim 26 = .ok (.aload_n 3, 1) := by decide +kernel
theorem dX4_trim_27 : decode cX4_trim 27 = .ok (.getfield 101, 3) := by decide +kernel
theorem dX4_trim_30 : decode cX4_trim 30 = .ok (.ifCond .eq 7, 3) := by decide +kernel
theorem dX4_trim_33 : decode cX4_trim 33 = .ok (.sipush (-1003), 3) := by decide +kernel
theorem dX4_trim_36 : decode cX4_trim 36 = .ok (.ireturn, 1) := by decide +kernel
theorem dX4_trim_37 : decode cX4_trim 37 = .ok (.aload_n 3, 1) := by decide +kernel
theorem dX4_trim_38 : decode cX4_trim 38 = .ok (.getfield 105, 3) := by decide +kernel
theorem dX4_trim_41 : decode cX4_trim 41 = .ok (.invokevirtual 160, 3) := by decide +kernel
theorem dX4_trim_44 : decode cX4_trim 44 = .ok (.istore 5, 2) := by decide +kernel
theorem dX4_trim_46 : decode cX4_trim 46 = .ok (.aload 4, 2) := by decide +kernel
theorem dX4_trim_48 : decode cX4_trim 48 = .ok (.aload_n 3, 1) := by decide +kernel
theorem dX4_trim_49 : decode cX4_trim 49 = .ok (.getfield 105, 3) := by decide +kernel
theorem dX4_trim_52 : decode cX4_trim 52 = .ok (.iload 5, 2) := by decide +kernel
theorem dX4_trim_54 : decode cX4_trim 54 = .ok (.aload_n 3, 1) := by decide +kernel
theorem dX4_trim_55 : decode cX4_trim 55 = .ok (.getfield 105, 3) := by decide +kernel
theorem dX4_trim_58 : decode cX4_trim 58 = .ok (.iload 5, 2) := by decide +kernel
theorem dX4_trim_60 : decode cX4_trim 60 = .ok (.invokevirtual 164, 3) := by decide +kernel
theorem dX4_trim_63 : decode cX4_trim 63 = .ok (.invokevirtual 129, 3) := by decide +kernel
theorem dX4_trim_66 : decode cX4_trim 66 = .ok (.ireturn, 1) := by decide +kernel
theorem dX4_repeat_0 : decode cX4_repeat 0 = .ok (.aload_n 0, 1) := by decide +kernel
theorem dX4_repeat_1 : decode cX4_repeat 1 = .ok (.iload_n 1, 1) := by decide +kernel
theorem dX4_repeat_2 : decode cX4_repeat 2 = .ok (.invokevirtual 97, 3) := by decide +kernel
theorem dX4_repeat_5 : decode cX4_repeat 5 = .ok (.astore 4, 2) := by decide +kernel
theorem dX4_repeat_7 : decode cX4_repeat 7 = .ok (.aload_n 0, 1) := by decide +kernel
theorem dX4_repeat_8 : decode cX4_repeat 8 = .ok (.iload_n 3, 1) := by decide +kernel
theorem dX4_repeat_9 : decode cX4_repeat 9 = .ok (.invokevirtual 97, 3) := by decide +kernel
theorem dX4_repeat_12 : decode cX4_repeat 12 = .ok (.astore 5, 2) := by decide +kernel
theorem dX4_repeat_14 : decode cX4_repeat 14 = .ok (.aload 4, 2) := by decide +kernel
theorem dX4_repeat_16 : decode cX4_repeat 16 = .ok (.ifnull 8, 3) := by decide +kernel
theorem dX4_repeat_19 : decode cX4_repeat 19 = .ok (.aload 5, 2) := by decide +kernel
theorem dX4_repeat_21 : decode cX4_repeat 21 = .ok (.ifnonnull 7, 3) := by decide +kernel
theorem dX4_repeat_24 : decode cX4_repeat 24 = .ok (.sipush (-1001), 3) := by decide +kernel
theorem dX4_repeat_27 : decode cX4_repeat 27 = .ok (.ireturn, 1) := by decide +kernel
theorem dX4_repeat_28 : decode cX4_repeat 28 = .ok (.aload 4, 2) := by decide +kernel
theorem dX4_repeat_30 : decode cX4_repeat 30 = .ok (.getfield 101, 3) := by decide +kernel
theorem dX4_repeat_33 : decode cX4_repeat 33 = .ok (.ifCond .eq 7, 3) := by decide +kernel
theorem dX4_repeat_36 : decode cX4_repeat 36 = .ok (.sipush (-1003), 3) := by decide +kernel
theorem dX4_repeat_39 : decode cX4_repeat 39 = .ok (.ireturn, 1) := by decide +kernel
theorem dX4_repeat_40 : decode cX4_repeat 40 = .ok (.iload_n 2, 1) := by decide +kernel
theorem dX4_repeat_41 : decode cX4_repeat 41 = .ok (.ifCond .ge 7, 3) := by decide +kernel
theorem dX4_repeat_44 : decode cX4_repeat 44 = .ok (.sipush (-1004), 3) := by decide +kernel
theorem dX4_repeat_47 : decode cX4_repeat 47 = .ok (.ireturn, 1) := by decide +kernel
theorem dX4_repeat_48 : decode cX4_repeat 48 = .ok (.iload_n 2, 1) := by decide +kernel
theorem dX4_repeat_49 : decode cX4_repeat 49 = .ok (.i2l, 1) := by decide +kernel
theorem dX4_repeat_50 : decode cX4_repeat 50 = .ok (.aload 4, 2) := by decide +kernel
theorem dX4_repeat_52 : decode cX4_repeat 52 = .ok (.getfield 105, 3) := by decide +kernel
theorem dX4_repeat_55 : decode cX4_repeat 55 = .ok (.getfield 60, 3) := by decide +kernel
theorem dX4_repeat_58 : decode cX4_repeat 58 = .ok (.i2l, 1) := by decide +kernel
theorem dX4_repeat_59 : decode cX4_repeat 59 = .ok (.lmul, 1) := by decide +kernel
theorem dX4_repeat_60 : decode cX4_repeat 60 = .ok (.ldc2_w 167, 3) := by decide +kernel
theorem dX4_repeat_63 : decode cX4_repeat 63 = .ok (.lcmp, 1) := by decide +kernel
theorem dX4_repeat_64 : decode cX4_repeat 64 = .ok (.ifCond .le 7, 3) := by decide +kernel
theorem dX4_repeat_67 : decode cX4_repeat 67 = .ok (.sipush (-1007), 3) := by decide +kernel
theorem dX4_repeat_70 : decode cX4_repeat 70 = .ok (.ireturn, 1) := by decide +kernel
theorem dX4_repeat_71 : decode cX4_repeat 71 = .ok (.aload_n 0, 1) := by decide +kernel
theorem dX4_repeat_72 : decode cX4_repeat 72 = .ok (.invokevirtual 86, 3) := by decide +kernel
theorem dX4_repeat_75 : decode cX4_repeat 75 = .ok (.astore 6, 2) := by decide +kernel
theorem dX4_repeat_77 : decode cX4_repeat 77 = .ok (.iload_n 2, 1) := by decide +kernel
theorem dX4_repeat_78 : decode cX4_repeat 78 = .ok (.sipush 200, 3) := by decide +kernel
theorem dX4_repeat_81 : decode cX4_repeat 81 = .ok (.invokestatic 169, 3) := by decide +kernel
theorem dX4_repeat_84 : decode cX4_repeat 84 = .ok (.istore 7, 2) := by decide +kernel
theorem dX4_repeat_86 : decode cX4_repeat 86 = .ok (.iconst 0, 1) := by decide +kernel
theorem dX4_repeat_87 : decode cX4_repeat 87 = .ok (.istore 8, 2) := by decide +kernel
theorem dX4_repeat_89 : decode cX4_repeat 89 = .ok (.iload 8, 2) := by decide +kernel
theorem dX4_repeat_91 : decode cX4_repeat 91 = .ok (.iload 7, 2) := by decide +kernel
theorem dX4_repeat_93 : decode cX4_repeat 93 = .ok (.if_icmp .ge 25, 3) := by decide +kernel
theorem dX4_repeat_96 : decode cX4_repeat 96 = .ok (.aload 6, 2) := by decide +kernel
theorem dX4_repeat_98 : decode cX4_repeat 98 = .ok (.aload 6, 2) := by decide +kernel
theorem dX4_repeat_100 : decode cX4_repeat 100 = .ok (.getfield 60, 3) := by decide +kernel
theorem dX4_repeat_103 : decode cX4_repeat 103 = .ok (.aload 4, 2) := by decide +kernel
theorem dX4_repeat_105 : decode cX4_repeat 105 = .ok (.getfield 105, 3) := by decide +kernel
theorem dX4_repeat_108 : decode cX4_repeat 108 = .ok (.invokevirtual 67, 3) := by decide +kernel
theorem dX4_repeat_111 : decode cX4_repeat 111 = .ok (.pop, 1) := by decide +kernel
theorem dX4_repeat_112 : decode cX4_repeat 112 = .ok (.iinc 8 1, 3) := by decide +kernel
theorem dX4_repeat_115 : decode cX4_repeat 115 = .ok (.goto (-26), 3) := by decide +kernel
theorem dX4_repeat_118 : decode cX4_repeat 118 = .ok (.aload 5, 2) := by decide +kernel
theorem dX4_repeat_120 : decode cX4_repeat 120 = .ok (.aload 6, 2) := by decide +kernel
theorem dX4_repeat_122 : decode cX4_repeat 122 = .ok (.iconst 0, 1) := by decide +kernel
theorem dX4_repeat_123 : decode cX4_repeat 123 = .ok (.aload 6, 2) := by decide +kernel
theorem dX4_repeat_125 : decode cX4_repeat 125 = .ok (.getfield 60, 3) := by decide +kernel
theorem dX4_repeat_128 : decode cX4_repeat 128 = .ok (.invokevirtual 129, 3) := by decide +kernel
theorem dX4_repeat_131 : decode cX4_repeat 131 = .ok (.ireturn, 1) := by decide +kernel
theorem dX4_join_0 : decode cX4_join 0 = .ok (.aload_n 0, 1) := by decide +kernel
theorem dX4_join_1 : decode cX4_join 1 = .ok (.iload_n 1, 1) := by decide +kernel
theorem dX4_join_2 : decode cX4_join 2 = .ok (.invokevirtual 97, 3) := by decide +kernel
theorem dX4_join_5 : decode cX4_join 5 = .ok (.astore 4, 2) := by decide +kernel
theorem dX4_join_7 : decode cX4_join 7 = .ok (.aload_n 0, 1) := by decide +kernel
theorem dX4_join_8 : decode cX4_join 8 = .ok (.iload_n 2, 1) := by decide +kernel
theorem dX4_join_9 : decode cX4_join 9 = .ok (.invokevirtual 97, 3) := by decide +kernel
theorem dX4_join_12 : decode cX4_join 12 = .ok (.astore 5, 2) := by decide +kernel
theorem dX4_join_14 : decode cX4_join 14 = .ok (.aload_n 0, 1) := by decide +kernel
theorem dX4_join_15 : decode cX4_join 15 = .ok (.iload_n 3, 1) := by decide +kernel
theorem dX4_join_16 : decode cX4_join 16 = .ok (.invokevirtual 97, 3) := by decide +kernel
theorem dX4_join_19 : decode cX4_join 19 = .ok (.astore 6, 2) := by decide +kernel
theorem dX4_join_21 : decode cX4_join 21 = .ok (.aload 4, 2) := by decide +kernel
theorem dX4_join_23 : decode cX4_join 23 = .ok (.ifnull 13, 3) := by decide +kernel
theorem dX4_join_26 : decode cX4_join 26 = .ok (.aload 5, 2) := by decide +kernel
theorem dX4_join_28 : decode cX4_join 28 = .ok (.ifnull 8, 3) := by decide +kernel
theorem dX4_join_31 : decode cX4_join 31 = .ok (.aload 6, 2) := by decide +kernel
theorem dX4_join_33 : decode cX4_join 33 = .ok (.ifnonnull 7, 3) := by decide +kernel
theorem dX4_join_36 : decode cX4_join 36 = .ok (.sipush (-1001), 3) := by decide +kernel
theorem dX4_join_39 : decode cX4_join 39 = .ok (.ireturn, 1) := by decide +kernel
theorem dX4_join_40 : decode cX4_join 40 = .ok (.aload 4, 2) := by decide +kernel
theorem dX4_join_42 : decode cX4_join 42 = .ok (.getfield 101, 3) := by decide +kernel
theorem dX4_join_45 : decode cX4_join 45 = .ok (.ifCond .ne 11, 3) := by decide +kernel
theorem dX4_join_48 : decode cX4_join 48 = .ok (.aload 5, 2) := by decide +kernel
theorem dX4_join_50 : decode cX4_join 50 = .ok (.getfield 101, 3) := by decide +kernel
theorem dX4_join_53 : decode cX4_join 53 = .ok (.ifCond .eq 7, 3) := by decide +kernel
theorem dX4_join_56 : decode cX4_join 56 = .ok (.sipush (-1003), 3) := by decide +kernel
theorem dX4_join_59 : decode cX4_join 59 = .ok (.ireturn, 1) := by decide +kernel
theorem dX4_join_60 : decode cX4_join 60 = .ok (.aload_n 0, 1) := by decide +kernel
theorem dX4_join_61 : decode cX4_join 61 = .ok (.invokevirtual 86, 3) := by decide +kernel
theorem dX4_join_64 : decode cX4_join 64 = .ok (.astore 7, 2) := by decide +kernel
theorem dX4_join_66 : decode cX4_join 66 = .ok (.aload 7, 2) := by decide +kernel
theorem dX4_join_68 : decode cX4_join 68 = .ok (.iconst 0, 1) := by decide +kernel
theorem dX4_join_69 : decode cX4_join 69 = .ok (.aload 4, 2) := by decide +kernel
theorem dX4_join_71 : decode cX4_join 71 = .ok (.getfield 105, 3) := by decide +kernel
theorem dX4_join_74 : decode cX4_join 74 = .ok (.invokevirtual 67, 3) := by decide +kernel
theorem dX4_join_77 : decode cX4_join 77 = .ok (.pop, 1) := by decide +kernel
theorem dX4_join_78 : decode cX4_join 78 = .ok (.aload 7, 2) := by decide +kernel
theorem dX4_join_80 : decode cX4_join 80 = .ok (.aload 7, 2) := by decide +kernel
theorem dX4_join_82 : decode cX4_join 82 = .ok (.getfield 60, 3) := by decide +kernel
theorem dX4_join_85 : decode cX4_join 85 = .ok (.aload 5, 2) := by decide +kernel
theorem dX4_join_87 : decode cX4_join 87 = .ok (.getfield 105, 3) := by decide +kernel
theorem dX4_join_90 : decode cX4_join 90 = .ok (.invokevirtual 67, 3) := by decide +kernel
theorem dX4_join_93 : decode cX4_join 93 = .ok (.istore 8, 2) := by decide +kernel
theorem dX4_join_95 : decode cX4_join 95 = .ok (.iload 8, 2) := by decide +kernel
theorem dX4_join_97 : decode cX4_join 97 = .ok (.ifCond .ge 8, 3) := by decide +kernel
theorem dX4_join_100 : decode cX4_join 100 = .ok (.iload 8, 2) := by decide +kernel
theorem dX4_join_102 : decode cX4_join 102 = .ok (.goto 16, 3) := by decide +kernel
theorem dX4_join_105 : decode cX4_join 105 = .ok (.aload 6, 2) := by decide +kernel
theorem dX4_join_107 : decode cX4_join 107 = .ok (.aload 7, 2) := by decide +kernel
theorem dX4_join_109 : decode cX4_join 109 = .ok (.iconst 0, 1) := by decide +kernel
theorem dX4_join_110 : decode cX4_join 110 = .ok (.aload 7, 2) := by decide +kernel
theorem dX4_join_112 : decode cX4_join 112 = .ok (.getfield 60, 3) := by decide +kernel
theorem dX4_join_115 : decode cX4_join 115 = .ok (.invokevirtual 129, 3) := by decide +kernel
theorem dX4_join_118 : decode cX4_join 118 = .ok (.ireturn, 1) := by decide +kernel
theorem dX4_split_0 : decode cX4_split 0 = .ok (.aload_n 0, 1) := by decide +kernel
theorem dX4_split_1 : decode cX4_split 1 = .ok (.iload_n 1, 1) := by decide +kernel
theorem dX4_split_2 : decode cX4_split 2 = .ok (.invokevirtual 97, 3) := by decide +kernel
theorem dX4_split_5 : decode cX4_split 5 = .ok (.astore 4, 2) := by decide +kernel
theorem dX4_split_7 : decode cX4_split 7 = .ok (.aload 4, 2) := by decide +kernel
theorem dX4_split_9 : decode cX4_split 9 = .ok (.ifnonnull 7, 3) := by decide +kernel
theorem dX4_split_12 : decode cX4_split 12 = .ok (.sipush (-1001), 3) := by decide +kernel
theorem dX4_split_15 : decode cX4_split 15 = .ok (.ireturn, 1) := by decide +kernel
theorem dX4_split_16 : decode cX4_split 16 = .ok (.iload_n 2, 1) := by decide +kernel
theorem dX4_split_17 : decode cX4_split 17 = .ok (.invokestatic 174, 3) := by decide +kernel
theorem dX4_split_20 : decode cX4_split 20 = .ok (.ifCond .ne 7, 3) := by decide +kernel
theorem dX4_split_23 : decode cX4_split 23 = .ok (.sipush (-1002), 3) := by decide +kernel
theorem dX4_split_26 : decode cX4_split 26 = .ok (.ireturn, 1) := by decide +kernel
theorem dX4_split_27 : decode cX4_split 27 = .ok (.aload 4, 2) := by decide +kernel
theorem dX4_split_29 : decode cX4_split 29 = .ok (.getfield 101, 3) := by decide +kernel
theorem dX4_split_32 : decode cX4_split 32 = .ok (.ifCond .eq 7, 3) := by decide +kernel
theorem dX4_split_35 : decode cX4_split 35 = .ok (.sipush (-1003), 3) := by decide +kernel
theorem dX4_split_38 : decode cX4_split 38 = .ok (.ireturn, 1) := by decide +kernel
theorem dX4_split_39 : decode cX4_split 39 = .ok (.aload_n 0, 1) := by decide +kernel
theorem dX4_split_40 : decode cX4_split 40 = .ok (.getfield 30, 3) := by decide +kernel
theorem dX4_split_43 : decode cX4_split 43 = .ok (.aload 4, 2) := by decide +kernel
theorem dX4_split_45 : decode cX4_split 45 = .ok (.getfield 105, 3) := by decide +kernel
theorem dX4_split_48 : decode cX4_split 48 = .ok (.iload_n 2, 1) := by decide +kernel
theorem dX4_split_49 : decode cX4_split 49 = .ok (.iload_n 3, 1) := by decide +kernel
theorem dX4_split_50 : decode cX4_split 50 = .ok (.invokevirtual 177, 3) := by decide +kernel
theorem dX4_split_53 : decode cX4_split 53 = .ok (.aload_n 0, 1) := by decide +kernel
theorem dX4_split_54 : decode cX4_split 54 = .ok (.getfield 30, 3) := by decide +kernel
theorem dX4_split_57 : decode cX4_split 57 = .ok (.getfield 181, 3) := by decide +kernel
theorem dX4_split_60 : decode cX4_split 60 = .ok (.ireturn, 1) := by decide +kernel
theorem dX4_parts_0 : decode cX4_parts 0 = .ok (.aload_n 0, 1) := by decide +kernel
theorem dX4_parts_1 : decode cX4_parts 1 = .ok (.getfield 30, 3) := by decide +kernel
theorem dX4_parts_4 : decode cX4_parts 4 = .ok (.getfield 181, 3) := by decide +kernel
theorem dX4_parts_7 : decode cX4_parts 7 = .ok (.ireturn, 1) := by decide +kernel
theorem dX4_partTo_0 : decode cX4_partTo 0 = .ok (.aload_n 0, 1) := by decide +kernel
theorem dX4_partTo_1 : decode cX4_partTo 1 = .ok (.iload_n 2, 1) := by decide +kernel
theorem dX4_partTo_2 : decode cX4_partTo 2 = .ok (.invokevirtual 97, 3) := by decide +kernel
theorem dX4_partTo_5 : decode cX4_partTo 5 = .ok (.astore_n 3, 1) := by decide +kernel
theorem dX4_partTo_6 : decode cX4_partTo 6 = .ok (.aload_n 3, 1) := by decide +kernel
theorem dX4_partTo_7 : decode cX4_partTo 7 = .ok (.ifnonnull 7, 3) := by decide +kernel
theorem dX4_partTo_10 : decode cX4_partTo 10 = .ok (.sipush (-1001), 3) := by decide +kernel
theorem dX4_partTo_13 : decode cX4_partTo 13 = .ok (.ireturn, 1) := by decide +kernel
theorem dX4_partTo_14 : decode cX4_partTo 14 = .ok (.aload_n 0, 1) := by decide +kernel
theorem dX4_partTo_15 : decode cX4_partTo 15 = .ok (.getfield 30, 3) := by decide +kernel
theorem dX4_partTo_18 : decode cX4_partTo 18 = .ok (.iload_n 1, 1) := by decide +kernel
theorem dX4_partTo_19 : decode cX4_partTo 19 = .ok (.invokevirtual 184, 3) := by decide +kernel
theorem dX4_partTo_22 : decode cX4_partTo 22 = .ok (.ifCond .ne 5, 3) := by decide +kernel
theorem dX4_partTo_25 : decode cX4_partTo 25 = .ok (.iconst (-1), 1) := by decide +kernel
theorem dX4_partTo_26 : decode cX4_partTo 26 = .ok (.ireturn, 1) := by decide +kernel
theorem dX4_partTo_27 : decode cX4_partTo 27 = .ok (.aload_n 3, 1) := by decide +kernel
theorem dX4_partTo_28 : decode cX4_partTo 28 = .ok (.aload_n 0, 1) := by decide +kernel
theorem dX4_partTo_29 : decode cX4_partTo 29 = .ok (.getfield 30, 3) := by decide +kernel
theorem dX4_partTo_32 : decode cX4_partTo 32 = .ok (.getfield 187, 3) := by decide +kernel
theorem dX4_partTo_35 : decode cX4_partTo 35 = .ok (.aload_n 0, 1) := by decide +kernel
theorem dX4_partTo_36 : decode cX4_partTo 36 = .ok (.getfield 30, 3) := by decide +kernel
theorem dX4_partTo_39 : decode cX4_partTo 39 = .ok (.iload_n 1, 1) := by decide +kernel
theorem dX4_partTo_40 : decode cX4_partTo 40 = .ok (.invokevirtual 190, 3) := by decide +kernel
theorem dX4_partTo_43 : decode cX4_partTo 43 = .ok (.aload_n 0, 1) := by decide +kernel
theorem dX4_partTo_44 : decode cX4_partTo 44 = .ok (.getfield 30, 3) := by decide +kernel
theorem dX4_partTo_47 : decode cX4_partTo 47 = .ok (.iload_n 1, 1) := by decide +kernel
theorem dX4_partTo_48 : decode cX4_partTo 48 = .ok (.invokevirtual 193, 3) := by decide +kernel
theorem dX4_partTo_51 : decode cX4_partTo 51 = .ok (.invokevirtual 129, 3) := by decide +kernel
theorem dX4_partTo_54 : decode cX4_partTo 54 = .ok (.ireturn, 1) := by decide +kernel
theorem dX4_joined_0 : decode cX4_joined 0 = .ok (.aload_n 0, 1) := by decide +kernel
theorem dX4_joined_1 : decode cX4_joined 1 = .ok (.iload_n 2, 1) := by decide +kernel
theorem dX4_joined_2 : decode cX4_joined 2 = .ok (.invokevirtual 97, 3) := by decide +kernel
theorem dX4_joined_5 : decode cX4_joined 5 = .ok (.astore_n 3, 1) := by decide +kernel
theorem dX4_joined_6 : decode cX4_joined 6 = .ok (.aload_n 3, 1) := by decide +kernel
theorem dX4_joined_7 : decode cX4_joined 7 = .ok (.ifnonnull 7, 3) := by decide +kernel
theorem dX4_joined_10 : decode cX4_joined 10 = .ok (.sipush (-1001), 3) := by decide +kernel
theorem dX4_joined_13 : decode cX4_joined 13 = .ok (.ireturn, 1) := by decide +kernel
theorem dX4_joined_14 : decode cX4_joined 14 = .ok (.iload_n 1, 1) := by decide +kernel
theorem dX4_joined_15 : decode cX4_joined 15 = .ok (.invokestatic 56, 3) := by decide +kernel
theorem dX4_joined_18 : decode cX4_joined 18 = .ok (.ifCond .ne 7, 3) := by decide +kernel
theorem dX4_joined_21 : decode cX4_joined 21 = .ok (.sipush (-1002), 3) := by decide +kernel
theorem dX4_joined_24 : decode cX4_joined 24 = .ok (.ireturn, 1) := by decide +kernel
theorem dX4_joined_25 : decode cX4_joined 25 = .ok (.aload_n 0, 1) := by decide +kernel
theorem dX4_joined_26 : decode cX4_joined 26 = .ok (.invokevirtual 86, 3) := by decide +kernel
theorem dX4_joined_29 : decode cX4_joined 29 = .ok (.astore 4, 2) := by decide +kernel
theorem dX4_joined_31 : decode cX4_joined 31 = .ok (.iconst 0, 1) := by decide +kernel
theorem dX4_joined_32 : decode cX4_joined 32 = .ok (.istore 5, 2) := by decide +kernel
theorem dX4_joined_34 : decode cX4_joined 34 = .ok (.iload 5, 2) := by decide +kernel
theorem dX4_joined_36 : decode cX4_joined 36 = .ok (.aload_n 0, 1) := by decide +kernel
theorem dX4_joined_37 : decode cX4_joined 37 = .ok (.getfield 30, 3) := by decide +kernel
theorem dX4_joined_40 : decode cX4_joined 40 = .ok (.getfield 181, 3) := by decide +kernel
theorem dX4_joined_43 : decode cX4_joined 43 = .ok (.if_icmp .ge 61, 3) := by decide +kernel
theorem dX4_joined_46 : decode cX4_joined 46 = .ok (.iload 5, 2) := by decide +kernel
theorem dX4_joined_48 : decode cX4_joined 48 = .ok (.ifCond .le 9, 3) := by decide +kernel
theorem dX4_joined_51 : decode cX4_joined 51 = .ok (.aload 4, 2) := by decide +kernel
theorem dX4_joined_53 : decode cX4_joined 53 = .ok (.iload_n 1, 1) := by decide +kernel
theorem dX4_joined_54 : decode cX4_joined 54 = .ok (.invokevirtual 48, 3) := by decide +kernel
theorem dX4_joined_57 : decode cX4_joined 57 = .ok (.aload 4, 2) := by decide +kernel
theorem dX4_joined_59 : decode cX4_joined 59 = .ok (.aload 4, 2) := by decide +kernel
theorem dX4_joined_61 : decode cX4_joined 61 = .ok (.getfield 60, 3) := by decide +kernel
theorem dX4_joined_64 : decode cX4_joined 64 = .ok (.aload 4, 2) := by decide +kernel
theorem dX4_joined_66 : decode cX4_joined 66 = .ok (.getfield 60, 3) := by decide +kernel
theorem dX4_joined_69 : decode cX4_joined 69 = .ok (.aload_n 0, 1) := by decide +kernel
theorem dX4_joined_70 : decode cX4_joined 70 = .ok (.getfield 30, 3) := by decide +kernel
theorem dX4_joined_73 : decode cX4_joined 73 = .ok (.getfield 187, 3) := by decide +kernel
theorem dX4_joined_76 : decode cX4_joined 76 = .ok (.aload_n 0, 1) := by decide +kernel
theorem dX4_joined_77 : decode cX4_joined 77 = .ok (.getfield 30, 3) := by decide +kernel
theorem dX4_joined_80 : decode cX4_joined 80 = .ok (.iload 5, 2) := by decide +kernel
theorem dX4_joined_82 : decode cX4_joined 82 = .ok (.invokevirtual 190, 3) := by decide +kernel
theorem dX4_joined_85 : decode cX4_joined 85 = .ok (.aload_n 0, 1) := by decide +kernel
theorem dX4_joined_86 : decode cX4_joined 86 = .ok (.getfield 30, 3) := by decide +kernel
theorem dX4_joined_89 : decode cX4_joined 89 = .ok (.iload 5, 2) := by decide +kernel
theorem dX4_joined_91 : decode cX4_joined 91 = .ok (.invokevirtual 193, 3) := by decide +kernel
theorem dX4_joined_94 : decode cX4_joined 94 = .ok (.invokevirtual 78, 3) := by decide +kernel
theorem dX4_joined_97 : decode cX4_joined 97 = .ok (.pop, 1) := by decide +kernel
theorem dX4_joined_98 : decode cX4_joined 98 = .ok (.iinc 5 1, 3) := by decide +kernel
theorem dX4_joined_101 : decode cX4_joined 101 = .ok (.goto (-67), 3) := by decide +kernel
theorem dX4_joined_104 : decode cX4_joined 104 = .ok (.aload_n 3, 1) := by decide +kernel
theorem dX4_joined_105 : decode cX4_joined 105 = .ok (.aload 4, 2) := by decide +kernel
theorem dX4_joined_107 : decode cX4_joined 107 = .ok (.iconst 0, 1) := by decide +kernel
theorem dX4_joined_108 : decode cX4_joined 108 = .ok (.aload 4, 2) := by decide +kernel
theorem dX4_joined_110 : decode cX4_joined 110 = .ok (.getfield 60, 3) := by decide +kernel
theorem dX4_joined_113 : decode cX4_joined 113 = .ok (.invokevirtual 129, 3) := by decide +kernel
theorem dX4_joined_116 : decode cX4_joined 116 = .ok (.ireturn, 1) := by decide +kernel
theorem dX4_cutter_0 : decode cX4_cutter 0 = .ok (.aload_n 0, 1) := by decide +kernel
theorem dX4_cutter_1 : decode cX4_cutter 1 = .ok (.iload_n 1, 1) := by decide +kernel
theorem dX4_cutter_2 : decode cX4_cutter 2 = .ok (.invokevirtual 196, 3) := by decide +kernel
theorem dX4_cutter_5 : decode cX4_cutter 5 = .ok (.astore 5, 2) := by decide +kernel
theorem dX4_cutter_7 : decode cX4_cutter 7 = .ok (.aload_n 0, 1) := by decide +kernel
theorem dX4_cutter_8 : decode cX4_cutter 8 = .ok (.iload_n 2, 1) := by decide +kernel
theorem dX4_cutter_9 : decode cX4_cutter 9 = .ok (.invokevirtual 97, 3) := by decide +kernel
theorem dX4_cutter_12 : decode cX4_cutter 12 = .ok (.astore 6, 2) := by decide +kernel
theorem dX4_cutter_14 : decode cX4_cutter 14 = .ok (.aload_n 0, 1) := by decide +kernel
theorem dX4_cutter_15 : decode cX4_cutter 15 = .ok (.iload_n 3, 1) := by decide +kernel
theorem dX4_cutter_16 : decode cX4_cutter 16 = .ok (.invokevirtual 97, 3) := by decide +kernel
theorem dX4_cutter_19 : decode cX4_cutter 19 = .ok (.astore 7, 2) := by decide +kernel
theorem dX4_cutter_21 : decode cX4_cutter 21 = .ok (.aload 5, 2) := by decide +kernel
theorem dX4_cutter_23 : decode cX4_cutter 23 = .ok (.ifnull 13, 3) := by decide +kernel
theorem dX4_cutter_26 : decode cX4_cutter 26 = .ok (.aload 6, 2) := by decide +kernel
theorem dX4_cutter_28 : decode cX4_cutter 28 = .ok (.ifnull 8, 3) := by decide +kernel
theorem dX4_cutter_31 : decode cX4_cutter 31 = .ok (.aload 7, 2) := by decide +kernel
theorem dX4_cutter_33 : decode cX4_cutter 33 = .ok (.ifnonnull 7, 3) := by decide +kernel
theorem dX4_cutter_36 : decode cX4_cutter 36 = .ok (.sipush (-1001), 3) := by decide +kernel
theorem dX4_cutter_39 : decode cX4_cutter 39 = .ok (.ireturn, 1) := by decide +kernel
theorem dX4_cutter_40 : decode cX4_cutter 40 = .ok (.aload 6, 2) := by decide +kernel
theorem dX4_cutter_42 : decode cX4_cutter 42 = .ok (.getfield 101, 3) := by decide +kernel
theorem dX4_cutter_45 : decode cX4_cutter 45 = .ok (.ifCond .ne 11, 3) := by decide +kernel
theorem dX4_cutter_48 : decode cX4_cutter 48 = .ok (.aload 7, 2) := by decide +kernel
theorem dX4_cutter_50 : decode cX4_cutter 50 = .ok (.getfield 101, 3) := by decide +kernel
theorem dX4_cutter_53 : decode cX4_cutter 53 = .ok (.ifCond .eq 7, 3) := by decide +kernel
theorem dX4_cutter_56 : decode cX4_cutter 56 = .ok (.sipush (-1003), 3) := by decide +kernel
theorem dX4_cutter_59 : decode cX4_cutter 59 = .ok (.ireturn, 1) := by decide +kernel
theorem dX4_cutter_60 : decode cX4_cutter 60 = .ok (.aload 5, 2) := by decide +kernel
theorem dX4_cutter_62 : decode cX4_cutter 62 = .ok (.aload 6, 2) := by decide +kernel
theorem dX4_cutter_64 : decode cX4_cutter 64 = .ok (.getfield 105, 3) := by decide +kernel
theorem dX4_cutter_67 : decode cX4_cutter 67 = .ok (.aload 7, 2) := by decide +kernel
theorem dX4_cutter_69 : decode cX4_cutter 69 = .ok (.getfield 105, 3) := by decide +kernel
theorem dX4_cutter_72 : decode cX4_cutter 72 = .ok (.iload 4, 2) := by decide +kernel
theorem dX4_cutter_74 : decode cX4_cutter 74 = .ok (.invokevirtual 200, 3) := by decide +kernel
theorem dX4_cutter_77 : decode cX4_cutter 77 = .ok (.aload 5, 2) := by decide +kernel
theorem dX4_cutter_79 : decode cX4_cutter 79 = .ok (.invokevirtual 204, 3) := by decide +kernel
theorem dX4_cutter_82 : decode cX4_cutter 82 = .ok (.ireturn, 1) := by decide +kernel
theorem dX4_more_0 : decode cX4_more 0 = .ok (.aload_n 0, 1) := by decide +kernel
theorem dX4_more_1 : decode cX4_more 1 = .ok (.iload_n 1, 1) := by decide +kernel
theorem dX4_more_2 : decode cX4_more 2 = .ok (.invokevirtual 196, 3) := by decide +kernel
theorem dX4_more_5 : decode cX4_more 5 = .ok (.astore_n 2, 1) := by decide +kernel
theorem dX4_more_6 : decode cX4_more 6 = .ok (.aload_n 2, 1) := by decide +kernel
theorem dX4_more_7 : decode cX4_more 7 = .ok (.ifnonnull 7, 3) := by decide +kernel
theorem dX4_more_10 : decode cX4_more 10 = .ok (.sipush (-1001), 3) := by decide +kernel
theorem dX4_more_13 : decode cX4_more 13 = .ok (.ireturn, 1) := by decide +kernel
theorem dX4_more_14 : decode cX4_more 14 = .ok (.aload_n 2, 1) := by decide +kernel
theorem dX4_more_15 : decode cX4_more 15 = .ok (.getfield 207, 3) := by decide +kernel
theorem dX4_more_18 : decode cX4_more 18 = .ok (.ifCond .eq 7, 3) := by decide +kernel
theorem dX4_more_21 : decode cX4_more 21 = .ok (.sipush (-1003), 3) := by decide +kernel
theorem dX4_more_24 : decode cX4_more 24 = .ok (.ireturn, 1) := by decide +kernel
theorem dX4_more_25 : decode cX4_more 25 = .ok (.aload_n 2, 1) := by decide +kernel
theorem dX4_more_26 : decode cX4_more 26 = .ok (.invokevirtual 208, 3) := by decide +kernel
theorem dX4_more_29 : decode cX4_more 29 = .ok (.ifCond .eq 7, 3) := by decide +kernel
theorem dX4_more_32 : decode cX4_more 32 = .ok (.iconst 1, 1) := by decide +kernel
theorem dX4_more_33 : decode cX4_more 33 = .ok (.goto 4, 3) := by decide +kernel
theorem dX4_more_36 : decode cX4_more 36 = .ok (.iconst 0, 1) := by decide +kernel
theorem dX4_more_37 : decode cX4_more 37 = .ok (.ireturn, 1) := by decide +kernel
theorem dX4_left_0 : decode cX4_left 0 = .ok (.aload_n 0, 1) := by decide +kernel
theorem dX4_left_1 : decode cX4_left 1 = .ok (.iload_n 1, 1) := by decide +kernel
theorem dX4_left_2 : decode cX4_left 2 = .ok (.invokevirtual 196, 3) := by decide +kernel
theorem dX4_left_5 : decode cX4_left 5 = .ok (.astore_n 2, 1) := by decide +kernel
theorem dX4_left_6 : decode cX4_left 6 = .ok (.aload_n 2, 1) := by decide +kernel
theorem dX4_left_7 : decode cX4_left 7 = .ok (.ifnonnull 7, 3) := by decide +kernel
theorem dX4_left_10 : decode cX4_left 10 = .ok (.sipush (-1001), 3) := by decide +kernel
theorem dX4_left_13 : decode cX4_left 13 = .ok (.ireturn, 1) := by decide +kernel
theorem dX4_left_14 : decode cX4_left 14 = .ok (.aload_n 2, 1) := by decide +kernel
theorem dX4_left_15 : decode cX4_left 15 = .ok (.getfield 207, 3) := by decide +kernel
theorem dX4_left_18 : decode cX4_left 18 = .ok (.ifCond .eq 9, 3) := by decide +kernel
theorem dX4_left_21 : decode cX4_left 21 = .ok (.sipush (-1003), 3) := by decide +kernel
theorem dX4_left_24 : decode cX4_left 24 = .ok (.goto 7, 3) := by decide +kernel
theorem dX4_left_27 : decode cX4_left 27 = .ok (.aload_n 2, 1) := by decide +kernel
theorem dX4_left_28 : decode cX4_left 28 = .ok (.invokevirtual 204, 3) := by decide +kernel
theorem dX4_left_31 : decode cX4_left 31 = .ok (.ireturn, 1) := by decide +kernel
theorem dX4_next_0 : decode cX4_next 0 = .ok (.aload_n 0, 1) := by decide +kernel
theorem dX4_next_1 : decode cX4_next 1 = .ok (.iload_n 1, 1) := by decide +kernel
theorem dX4_next_2 : decode cX4_next 2 = .ok (.invokevirtual 196, 3) := by decide +kernel
theorem dX4_next_5 : decode cX4_next 5 = .ok (.astore_n 3, 1) := by decide +kernel
theorem dX4_next_6 : decode cX4_next 6 = .ok (.aload_n 0, 1) := by decide +kernel
theorem dX4_next_7 : decode cX4_next 7 = .ok (.iload_n 2, 1) := by decide +kernel
theorem dX4_next_8 : decode cX4_next 8 = .ok (.invokevirtual 97, 3) := by decide +kernel
theorem dX4_next_11 : decode cX4_next 11 = .ok (.astore 4, 2) := by decide +kernel
theorem dX4_next_13 : decode cX4_next 13 = .ok (.aload_n 3, 1) := by decide +kernel
theorem dX4_next_14 : decode cX4_next 14 = .ok (.ifnull 8, 3) := by decide +kernel
theorem dX4_next_17 : decode cX4_next 17 = .ok (.aload 4, 2) := by decide +kernel
theorem dX4_next_19 : decode cX4_next 19 = .ok (.ifnonnull 7, 3) := by decide +kernel
theorem dX4_next_22 : decode cX4_next 22 = .ok (.sipush (-1001), 3) := by decide +kernel
theorem dX4_next_25 : decode cX4_next 25 = .ok (.ireturn, 1) := by decide +kernel
theorem dX4_next_26 : decode cX4_next 26 = .ok (.aload_n 3, 1) := by decide +kernel
theorem dX4_next_27 : decode cX4_next 27 = .ok (.getfield 207, 3) := by decide +kernel
theorem dX4_next_30 : decode cX4_next 30 = .ok (.ifCond .eq 9, 3) := by decide +kernel
theorem dX4_next_33 : decode cX4_next 33 = .ok (.sipush (-1003), 3) := by decide +kernel
theorem dX4_next_36 : decode cX4_next 36 = .ok (.goto 9, 3) := by decide +kernel
theorem dX4_next_39 : decode cX4_next 39 = .ok (.aload_n 3, 1) := by decide +kernel
theorem dX4_next_40 : decode cX4_next 40 = .ok (.aload 4, 2) := by decide +kernel
theorem dX4_next_42 : decode cX4_next 42 = .ok (.invokevirtual 212, 3) := by decide +kernel
theorem dX4_next_45 : decode cX4_next 45 = .ok (.ireturn, 1) := by decide +kernel
theorem dX4_nextBy_0 : decode cX4_nextBy 0 = .ok (.aload_n 0, 1) := by decide +kernel
theorem dX4_nextBy_1 : decode cX4_nextBy 1 = .ok (.iload_n 1, 1) := by decide +kernel
theorem dX4_nextBy_2 : decode cX4_nextBy 2 = .ok (.invokevirtual 196, 3) := by decide +kernel
theorem dX4_nextBy_5 : decode cX4_nextBy 5 = .ok (.astore 4, 2) := by decide +kernel
theorem dX4_nextBy_7 : decode cX4_nextBy 7 = .ok (.aload_n 0, 1) := by decide +kernel
theorem dX4_nextBy_8 : decode cX4_nextBy 8 = .ok (.iload_n 2, 1) := by decide +kernel
theorem dX4_nextBy_9 : decode cX4_nextBy 9 = .ok (.invokevirtual 97, 3) := by decide +kernel
theorem dX4_nextBy_12 : decode cX4_nextBy 12 = .ok (.astore 5, 2) := by decide +kernel
theorem dX4_nextBy_14 : decode cX4_nextBy 14 = .ok (.aload_n 0, 1) := by decide +kernel
theorem dX4_nextBy_15 : decode cX4_nextBy 15 = .ok (.iload_n 3, 1) := by decide +kernel
theorem dX4_nextBy_16 : decode cX4_nextBy 16 = .ok (.invokevirtual 97, 3) := by decide +kernel
theorem dX4_nextBy_19 : decode cX4_nextBy 19 = .ok (.astore 6, 2) := by decide +kernel
theorem dX4_nextBy_21 : decode cX4_nextBy 21 = .ok (.aload 4, 2) := by decide +kernel
theorem dX4_nextBy_23 : decode cX4_nextBy 23 = .ok (.ifnull 13, 3) := by decide +kernel
theorem dX4_nextBy_26 : decode cX4_nextBy 26 = .ok (.aload 5, 2) := by decide +kernel
theorem dX4_nextBy_28 : decode cX4_nextBy 28 = .ok (.ifnull 8, 3) := by decide +kernel
theorem dX4_nextBy_31 : decode cX4_nextBy 31 = .ok (.aload 6, 2) := by decide +kernel
theorem dX4_nextBy_33 : decode cX4_nextBy 33 = .ok (.ifnonnull 7, 3) := by decide +kernel
theorem dX4_nextBy_36 : decode cX4_nextBy 36 = .ok (.sipush (-1001), 3) := by decide +kernel
theorem dX4_nextBy_39 : decode cX4_nextBy 39 = .ok (.ireturn, 1) := by decide +kernel
theorem dX4_nextBy_40 : decode cX4_nextBy 40 = .ok (.aload 4, 2) := by decide +kernel
theorem dX4_nextBy_42 : decode cX4_nextBy 42 = .ok (.getfield 207, 3) := by decide +kernel
theorem dX4_nextBy_45 : decode cX4_nextBy 45 = .ok (.ifCond .ne 11, 3) := by decide +kernel
theorem dX4_nextBy_48 : decode cX4_nextBy 48 = .ok (.aload 5, 2) := by decide +kernel
theorem dX4_nextBy_50 : decode cX4_nextBy 50 = .ok (.getfield 101, 3) := by decide +kernel
theorem dX4_nextBy_53 : decode cX4_nextBy 53 = .ok (.ifCond .eq 7, 3) := by decide +kernel
theorem dX4_nextBy_56 : decode cX4_nextBy 56 = .ok (.sipush (-1003), 3) := by decide +kernel
theorem dX4_nextBy_59 : decode cX4_nextBy 59 = .ok (.ireturn, 1) := by decide +kernel
theorem dX4_nextBy_60 : decode cX4_nextBy 60 = .ok (.aload 4, 2) := by decide +kernel
theorem dX4_nextBy_62 : decode cX4_nextBy 62 = .ok (.aload 5, 2) := by decide +kernel
theorem dX4_nextBy_64 : decode cX4_nextBy 64 = .ok (.getfield 105, 3) := by decide +kernel
theorem dX4_nextBy_67 : decode cX4_nextBy 67 = .ok (.invokevirtual 216, 3) := by decide +kernel
theorem dX4_nextBy_70 : decode cX4_nextBy 70 = .ok (.aload 4, 2) := by decide +kernel
theorem dX4_nextBy_72 : decode cX4_nextBy 72 = .ok (.aload 6, 2) := by decide +kernel
theorem dX4_nextBy_74 : decode cX4_nextBy 74 = .ok (.invokevirtual 212, 3) := by decide +kernel
theorem dX4_nextBy_77 : decode cX4_nextBy 77 = .ok (.ireturn, 1) := by decide +kernel
theorem dX4_digest_0 : decode cX4_digest 0 = .ok (.ldc2_w 220, 3) := by decide +kernel
theorem dX4_digest_3 : decode cX4_digest 3 = .ok (.lstore_n 1, 1) := by decide +kernel
theorem dX4_digest_4 : decode cX4_digest 4 = .ok (.iconst 0, 1) := by decide +kernel
theorem dX4_digest_5 : decode cX4_digest 5 = .ok (.istore_n 3, 1) := by decide +kernel
theorem dX4_digest_6 : decode cX4_digest 6 = .ok (.iload_n 3, 1) := by decide +kernel
theorem dX4_digest_7 : decode cX4_digest 7 = .ok (.aload_n 0, 1) := by decide +kernel
theorem dX4_digest_8 : decode cX4_digest 8 = .ok (.getfield 11, 3) := by decide +kernel
theorem dX4_digest_11 : decode cX4_digest 11 = .ok (.arraylength, 1) := by decide +kernel
theorem dX4_digest_12 : decode cX4_digest 12 = .ok (.if_icmp .ge 30, 3) := by decide +kernel
theorem dX4_digest_15 : decode cX4_digest 15 = .ok (.lload_n 1, 1) := by decide +kernel
theorem dX4_digest_16 : decode cX4_digest 16 = .ok (.aload_n 0, 1) := by decide +kernel
theorem dX4_digest_17 : decode cX4_digest 17 = .ok (.getfield 11, 3) := by decide +kernel
theorem dX4_digest_20 : decode cX4_digest 20 = .ok (.iload_n 3, 1) := by decide +kernel
theorem dX4_digest_21 : decode cX4_digest 21 = .ok (.aaload, 1) := by decide +kernel
theorem dX4_digest_22 : decode cX4_digest 22 = .ok (.iconst 0, 1) := by decide +kernel
theorem dX4_digest_23 : decode cX4_digest 23 = .ok (.aload_n 0, 1) := by decide +kernel
theorem dX4_digest_24 : decode cX4_digest 24 = .ok (.getfield 11, 3) := by decide +kernel
theorem dX4_digest_27 : decode cX4_digest 27 = .ok (.iload_n 3, 1) := by decide +kernel
theorem dX4_digest_28 : decode cX4_digest 28 = .ok (.aaload, 1) := by decide +kernel
theorem dX4_digest_29 : decode cX4_digest 29 = .ok (.getfield 60, 3) := by decide +kernel
theorem dX4_digest_32 : decode cX4_digest 32 = .ok (.invokestatic 222, 3) := by decide +kernel
theorem dX4_digest_35 : decode cX4_digest 35 = .ok (.lstore_n 1, 1) := by decide +kernel
theorem dX4_digest_36 : decode cX4_digest 36 = .ok (.iinc 3 1, 3) := by decide +kernel
theorem dX4_digest_39 : decode cX4_digest 39 = .ok (.goto (-33), 3) := by decide +kernel
theorem dX4_digest_42 : decode cX4_digest 42 = .ok (.iconst 0, 1) := by decide +kernel
theorem dX4_digest_43 : decode cX4_digest 43 = .ok (.istore_n 3, 1) := by decide +kernel
theorem dX4_digest_44 : decode cX4_digest 44 = .ok (.iload_n 3, 1) := by decide +kernel
theorem dX4_digest_45 : decode cX4_digest 45 = .ok (.aload_n 0, 1) := by decide +kernel
theorem dX4_digest_46 : decode cX4_digest 46 = .ok (.getfield 17, 3) := by decide +kernel
theorem dX4_digest_49 : decode cX4_digest 49 = .ok (.arraylength, 1) := by decide +kernel
theorem dX4_digest_50 : decode cX4_digest 50 = .ok (.if_icmp .ge 52, 3) := by decide +kernel
theorem dX4_digest_53 : decode cX4_digest 53 = .ok (.aload_n 0, 1) := by decide +kernel
theorem dX4_digest_54 : decode cX4_digest 54 = .ok (.getfield 17, 3) := by decide +kernel
theorem dX4_digest_57 : decode cX4_digest 57 = .ok (.iload_n 3, 1) := by decide +kernel
theorem dX4_digest_58 : decode cX4_digest 58 = .ok (.aaload, 1) := by decide +kernel
theorem dX4_digest_59 : decode cX4_digest 59 = .ok (.astore 4, 2) := by decide +kernel
theorem dX4_digest_61 : decode cX4_digest 61 = .ok (.aload 4, 2) := by decide +kernel
theorem dX4_digest_63 : decode cX4_digest 63 = .ok (.getfield 101, 3) := by decide +kernel
theorem dX4_digest_66 : decode cX4_digest 66 = .ok (.ifCond .eq 11, 3) := by decide +kernel
theorem dX4_digest_69 : decode cX4_digest 69 = .ok (.lload_n 1, 1) := by decide +kernel
theorem dX4_digest_70 : decode cX4_digest 70 = .ok (.iconst (-1), 1) := by decide +kernel
theorem dX4_digest_71 : decode cX4_digest 71 = .ok (.invokestatic 226, 3) := by decide +kernel
theorem dX4_digest_74 : decode cX4_digest 74 = .ok (.goto 21, 3) := by decide +kernel
theorem dX4_digest_77 : decode cX4_digest 77 = .ok (.lload_n 1, 1) := by decide +kernel
theorem dX4_digest_78 : decode cX4_digest 78 = .ok (.aload 4, 2) := by decide +kernel
theorem dX4_digest_80 : decode cX4_digest 80 = .ok (.getfield 105, 3) := by decide +kernel
theorem dX4_digest_83 : decode cX4_digest 83 = .ok (.iconst 0, 1) := by decide +kernel
theorem dX4_digest_84 : decode cX4_digest 84 = .ok (.aload 4, 2) := by decide +kernel
theorem dX4_digest_86 : decode cX4_digest 86 = .ok (.getfield 105, 3) := by decide +kernel
theorem dX4_digest_89 : decode cX4_digest 89 = .ok (.getfield 60, 3) := by decide +kernel
theorem dX4_digest_92 : decode cX4_digest 92 = .ok (.invokestatic 222, 3) := by decide +kernel
theorem dX4_digest_95 : decode cX4_digest 95 = .ok (.lstore_n 1, 1) := by decide +kernel
theorem dX4_digest_96 : decode cX4_digest 96 = .ok (.iinc 3 1, 3) := by decide +kernel
theorem dX4_digest_99 : decode cX4_digest 99 = .ok (.goto (-55), 3) := by decide +kernel
theorem dX4_digest_102 : decode cX4_digest 102 = .ok (.lload_n 1, 1) := by decide +kernel
theorem dX4_digest_103 : decode cX4_digest 103 = .ok (.aload_n 0, 1) := by decide +kernel
theorem dX4_digest_104 : decode cX4_digest 104 = .ok (.getfield 30, 3) := by decide +kernel
theorem dX4_digest_107 : decode cX4_digest 107 = .ok (.getfield 181, 3) := by decide +kernel
theorem dX4_digest_110 : decode cX4_digest 110 = .ok (.invokestatic 226, 3) := by decide +kernel
theorem dX4_digest_113 : decode cX4_digest 113 = .ok (.lstore_n 1, 1) := by decide +kernel
theorem dX4_digest_114 : decode cX4_digest 114 = .ok (.iconst 0, 1) := by decide +kernel
theorem dX4_digest_115 : decode cX4_digest 115 = .ok (.istore_n 3, 1) := by decide +kernel
theorem dX4_digest_116 : decode cX4_digest 116 = .ok (.iload_n 3, 1) := by decide +kernel
theorem dX4_digest_117 : decode cX4_digest 117 = .ok (.aload_n 0, 1) := by decide +kernel
theorem dX4_digest_118 : decode cX4_digest 118 = .ok (.getfield 30, 3) := by decide +kernel
theorem dX4_digest_121 : decode cX4_digest 121 = .ok (.getfield 181, 3) := by decide +kernel
theorem dX4_digest_124 : decode cX4_digest 124 = .ok (.if_icmp .ge 37, 3) := by decide +kernel
theorem dX4_digest_127 : decode cX4_digest 127 = .ok (.lload_n 1, 1) := by decide +kernel
theorem dX4_digest_128 : decode cX4_digest 128 = .ok (.aload_n 0, 1) := by decide +kernel
theorem dX4_digest_129 : decode cX4_digest 129 = .ok (.getfield 30, 3) := by decide +kernel
theorem dX4_digest_132 : decode cX4_digest 132 = .ok (.getfield 187, 3) := by decide +kernel
theorem dX4_digest_135 : decode cX4_digest 135 = .ok (.aload_n 0, 1) := by decide +kernel
theorem dX4_digest_136 : decode cX4_digest 136 = .ok (.getfield 30, 3) := by decide +kernel
theorem dX4_digest_139 : decode cX4_digest 139 = .ok (.iload_n 3, 1) := by decide +kernel
theorem dX4_digest_140 : decode cX4_digest 140 = .ok (.invokevirtual 190, 3) := by decide +kernel
theorem dX4_digest_143 : decode cX4_digest 143 = .ok (.aload_n 0, 1) := by decide +kernel
theorem dX4_digest_144 : decode cX4_digest 144 = .ok (.getfield 30, 3) := by decide +kernel
theorem dX4_digest_147 : decode cX4_digest 147 = .ok (.iload_n 3, 1) := by decide +kernel
theorem dX4_digest_148 : decode cX4_digest 148 = .ok (.invokevirtual 193, 3) := by decide +kernel
theorem dX4_digest_151 : decode cX4_digest 151 = .ok (.invokestatic 222, 3) := by decide +kernel
theorem dX4_digest_154 : decode cX4_digest 154 = .ok (.lstore_n 1, 1) := by decide +kernel
theorem dX4_digest_155 : decode cX4_digest 155 = .ok (.iinc 3 1, 3) := by decide +kernel
theorem dX4_digest_158 : decode cX4_digest 158 = .ok (.goto (-42), 3) := by decide +kernel
theorem dX4_digest_161 : decode cX4_digest 161 = .ok (.iconst 0, 1) := by decide +kernel
theorem dX4_digest_162 : decode cX4_digest 162 = .ok (.istore_n 3, 1) := by decide +kernel
theorem dX4_digest_163 : decode cX4_digest 163 = .ok (.iload_n 3, 1) := by decide +kernel
theorem dX4_digest_164 : decode cX4_digest 164 = .ok (.aload_n 0, 1) := by decide +kernel
theorem dX4_digest_165 : decode cX4_digest 165 = .ok (.getfield 23, 3) := by decide +kernel
theorem dX4_digest_168 : decode cX4_digest 168 = .ok (.arraylength, 1) := by decide +kernel
theorem dX4_digest_169 : decode cX4_digest 169 = .ok (.if_icmp .ge 39, 3) := by decide +kernel
theorem dX4_digest_172 : decode cX4_digest 172 = .ok (.lload_n 1, 1) := by decide +kernel
theorem dX4_digest_173 : decode cX4_digest 173 = .ok (.aload_n 0, 1) := by decide +kernel
theorem dX4_digest_174 : decode cX4_digest 174 = .ok (.getfield 23, 3) := by decide +kernel
theorem dX4_digest_177 : decode cX4_digest 177 = .ok (.iload_n 3, 1) := by decide +kernel
theorem dX4_digest_178 : decode cX4_digest 178 = .ok (.aaload, 1) := by decide +kernel
theorem dX4_digest_179 : decode cX4_digest 179 = .ok (.getfield 207, 3) := by decide +kernel
theorem dX4_digest_182 : decode cX4_digest 182 = .ok (.ifCond .eq 7, 3) := by decide +kernel
theorem dX4_digest_185 : decode cX4_digest 185 = .ok (.iconst (-1), 1) := by decide +kernel
theorem dX4_digest_186 : decode cX4_digest 186 = .ok (.goto 12, 3) := by decide +kernel
theorem dX4_digest_189 : decode cX4_digest 189 = .ok (.aload_n 0, 1) := by decide +kernel
theorem dX4_digest_190 : decode cX4_digest 190 = .ok (.getfield 23, 3) := by decide +kernel
theorem dX4_digest_193 : decode cX4_digest 193 = .ok (.iload_n 3, 1) := by decide +kernel
theorem dX4_digest_194 : decode cX4_digest 194 = .ok (.aaload, 1) := by decide +kernel
theorem dX4_digest_195 : decode cX4_digest 195 = .ok (.invokevirtual 204, 3) := by decide +kernel
theorem dX4_digest_198 : decode cX4_digest 198 = .ok (.invokestatic 226, 3) := by decide +kernel
theorem dX4_digest_201 : decode cX4_digest 201 = .ok (.lstore_n 1, 1) := by decide +kernel
theorem dX4_digest_202 : decode cX4_digest 202 = .ok (.iinc 3 1, 3) := by decide +kernel
theorem dX4_digest_205 : decode cX4_digest 205 = .ok (.goto (-42), 3) := by decide +kernel
theorem dX4_digest_208 : decode cX4_digest 208 = .ok (.lload_n 1, 1) := by decide +kernel
theorem dX4_digest_209 : decode cX4_digest 209 = .ok (.lreturn, 1) := by decide +kernel
theorem dX4_mixed_0 : decode cX4_mixed 0 = .ok (.ldc2_w 230, 3) := by decide +kernel
theorem dX4_mixed_3 : decode cX4_mixed 3 = .ok (.lload_n 0, 1) := by decide +kernel
theorem dX4_mixed_4 : decode cX4_mixed 4 = .ok (.lmul, 1) := by decide +kernel
theorem dX4_mixed_5 : decode cX4_mixed 5 = .ok (.iload_n 2, 1) := by decide +kernel
theorem dX4_mixed_6 : decode cX4_mixed 6 = .ok (.i2l, 1) := by decide +kernel
theorem dX4_mixed_7 : decode cX4_mixed 7 = .ok (.ladd, 1) := by decide +kernel
theorem dX4_mixed_8 : decode cX4_mixed 8 = .ok (.lreturn, 1) := by decide +kernel
theorem dX4_mixedRow_0 : decode cX4_mixedRow 0 = .ok (.lload_n 0, 1) := by decide +kernel
theorem dX4_mixedRow_1 : decode cX4_mixedRow 1 = .ok (.iload 4, 2) := by decide +kernel
theorem dX4_mixedRow_3 : decode cX4_mixedRow 3 = .ok (.iload_n 3, 1) := by decide +kernel
theorem dX4_mixedRow_4 : decode cX4_mixedRow 4 = .ok (.isub, 1) := by decide +kernel
theorem dX4_mixedRow_5 : decode cX4_mixedRow 5 = .ok (.invokestatic 226, 3) := by decide +kernel
theorem dX4_mixedRow_8 : decode cX4_mixedRow 8 = .ok (.lstore 5, 2) := by decide +kernel
theorem dX4_mixedRow_10 : decode cX4_mixedRow 10 = .ok (.iload_n 3, 1) := by decide +kernel
theorem dX4_mixedRow_11 : decode cX4_mixedRow 11 = .ok (.istore 7, 2) := by decide +kernel
theorem dX4_mixedRow_13 : decode cX4_mixedRow 13 = .ok (.iload 7, 2) := by decide +kernel
theorem dX4_mixedRow_15 : decode cX4_mixedRow 15 = .ok (.iload 4, 2) := by decide +kernel
theorem dX4_mixedRow_17 : decode cX4_mixedRow 17 = .ok (.if_icmp .ge 22, 3) := by decide +kernel
theorem dX4_mixedRow_20 : decode cX4_mixedRow 20 = .ok (.lload 5, 2) := by decide +kernel
theorem dX4_mixedRow_22 : decode cX4_mixedRow 22 = .ok (.aload_n 2, 1) := by decide +kernel
theorem dX4_mixedRow_23 : decode cX4_mixedRow 23 = .ok (.iload 7, 2) := by decide +kernel
theorem dX4_mixedRow_25 : decode cX4_mixedRow 25 = .ok (.invokevirtual 111, 3) := by decide +kernel
theorem dX4_mixedRow_28 : decode cX4_mixedRow 28 = .ok (.invokestatic 226, 3) := by decide +kernel
theorem dX4_mixedRow_31 : decode cX4_mixedRow 31 = .ok (.lstore 5, 2) := by decide +kernel
theorem dX4_mixedRow_33 : decode cX4_mixedRow 33 = .ok (.iinc 7 1, 3) := by decide +kernel
theorem dX4_mixedRow_36 : decode cX4_mixedRow 36 = .ok (.goto (-23), 3) := by decide +kernel
theorem dX4_mixedRow_39 : decode cX4_mixedRow 39 = .ok (.lload 5, 2) := by decide +kernel
theorem dX4_mixedRow_41 : decode cX4_mixedRow 41 = .ok (.lreturn, 1) := by decide +kernel
theorem dX4_isSign_0 : decode cX4_isSign 0 = .ok (.iload_n 0, 1) := by decide +kernel
theorem dX4_isSign_1 : decode cX4_isSign 1 = .ok (.ifCond .lt 14, 3) := by decide +kernel
theorem dX4_isSign_4 : decode cX4_isSign 4 = .ok (.iload_n 0, 1) := by decide +kernel
theorem dX4_isSign_5 : decode cX4_isSign 5 = .ok (.sipush 256, 3) := by decide +kernel
theorem dX4_isSign_8 : decode cX4_isSign 8 = .ok (.if_icmp .ge 7, 3) := by decide +kernel
theorem dX4_isSign_11 : decode cX4_isSign 11 = .ok (.iconst 1, 1) := by decide +kernel
theorem dX4_isSign_12 : decode cX4_isSign 12 = .ok (.goto 4, 3) := by decide +kernel
theorem dX4_isSign_15 : decode cX4_isSign 15 = .ok (.iconst 0, 1) := by decide +kernel
theorem dX4_isSign_16 : decode cX4_isSign 16 = .ok (.ireturn, 1) := by decide +kernel
theorem dX4_isSeparator_0 : decode cX4_isSeparator 0 = .ok (.iconst 0, 1) := by decide +kernel
theorem dX4_isSeparator_1 : decode cX4_isSeparator 1 = .ok (.istore_n 1, 1) := by decide +kernel
theorem dX4_isSeparator_2 : decode cX4_isSeparator 2 = .ok (.iload_n 1, 1) := by decide +kernel
theorem dX4_isSeparator_3 : decode cX4_isSeparator 3 = .ok (.getstatic 232, 3) := by decide +kernel
theorem dX4_isSeparator_6 : decode cX4_isSeparator 6 = .ok (.arraylength, 1) := by decide +kernel
theorem dX4_isSeparator_7 : decode cX4_isSeparator 7 = .ok (.if_icmp .ge 20, 3) := by decide +kernel
theorem dX4_isSeparator_10 : decode cX4_isSeparator 10 = .ok (.getstatic 232, 3) := by decide +kernel
theorem dX4_isSeparator_13 : decode cX4_isSeparator 13 = .ok (.iload_n 1, 1) := by decide +kernel
theorem dX4_isSeparator_14 : decode cX4_isSeparator 14 = .ok (.iaload, 1) := by decide +kernel
theorem dX4_isSeparator_15 : decode cX4_isSeparator 15 = .ok (.iload_n 0, 1) := by decide +kernel
theorem dX4_isSeparator_16 : decode cX4_isSeparator 16 = .ok (.if_icmp .ne 5, 3) := by decide +kernel
theorem dX4_isSeparator_19 : decode cX4_isSeparator 19 = .ok (.iconst 0, 1) := by decide +kernel
theorem dX4_isSeparator_20 : decode cX4_isSeparator 20 = .ok (.ireturn, 1) := by decide +kernel
theorem dX4_isSeparator_21 : decode cX4_isSeparator 21 = .ok (.iinc 1 1, 3) := by decide +kernel
theorem dX4_isSeparator_24 : decode cX4_isSeparator 24 = .ok (.goto (-22), 3) := by decide +kernel
theorem dX4_isSeparator_27 : decode cX4_isSeparator 27 = .ok (.iload_n 0, 1) := by decide +kernel
theorem dX4_isSeparator_28 : decode cX4_isSeparator 28 = .ok (.invokestatic 56, 3) := by decide +kernel
theorem dX4_isSeparator_31 : decode cX4_isSeparator 31 = .ok (.ireturn, 1) := by decide +kernel
theorem dX4_builderOf_0 : decode cX4_builderOf 0 = .ok (.iload_n 1, 1) := by decide +kernel
theorem dX4_builderOf_1 : decode cX4_builderOf 1 = .ok (.ifCond .lt 21, 3) := by decide +kernel
theorem dX4_builderOf_4 : decode cX4_builderOf 4 = .ok (.iload_n 1, 1) := by decide +kernel
theorem dX4_builderOf_5 : decode cX4_builderOf 5 = .ok (.aload_n 0, 1) := by decide +kernel
theorem dX4_builderOf_6 : decode cX4_builderOf 6 = .ok (.getfield 11, 3) := by decide +kernel
theorem dX4_builderOf_9 : decode cX4_builderOf 9 = .ok (.arraylength, 1) := by decide +kernel
theorem dX4_builderOf_10 : decode cX4_builderOf 10 = .ok (.if_icmp .ge 12, 3) := by decide +kernel
theorem dX4_builderOf_13 : decode cX4_builderOf 13 = .ok (.aload_n 0, 1) := by decide +kernel
theorem dX4_builderOf_14 : decode cX4_builderOf 14 = .ok (.getfield 11, 3) := by decide +kernel
theorem dX4_builderOf_17 : decode cX4_builderOf 17 = .ok (.iload_n 1, 1) := by decide +kernel
theorem dX4_builderOf_18 : decode cX4_builderOf 18 = .ok (.aaload, 1) := by decide +kernel
theorem dX4_builderOf_19 : decode cX4_builderOf 19 = .ok (.goto 4, 3) := by decide +kernel
theorem dX4_builderOf_22 : decode cX4_builderOf 22 = .ok (.aconst_null, 1) := by decide +kernel
theorem dX4_builderOf_23 : decode cX4_builderOf 23 = .ok (.areturn, 1) := by decide +kernel
theorem dX4_textOf_0 : decode cX4_textOf 0 = .ok (.iload_n 1, 1) := by decide +kernel
theorem dX4_textOf_1 : decode cX4_textOf 1 = .ok (.ifCond .lt 21, 3) := by decide +kernel
theorem dX4_textOf_4 : decode cX4_textOf 4 = .ok (.iload_n 1, 1) := by decide +kernel
theorem dX4_textOf_5 : decode cX4_textOf 5 = .ok (.aload_n 0, 1) := by decide +kernel
theorem dX4_textOf_6 : decode cX4_textOf 6 = .ok (.getfield 17, 3) := by decide +kernel
theorem dX4_textOf_9 : decode cX4_textOf 9 = .ok (.arraylength, 1) := by decide +kernel
theorem dX4_textOf_10 : decode cX4_textOf 10 = .ok (.if_icmp .ge 12, 3) := by decide +kernel
theorem dX4_textOf_13 : decode cX4_textOf 13 = .ok (.aload_n 0, 1) := by decide +kernel
theorem dX4_textOf_14 : decode cX4_textOf 14 = .ok (.getfield 17, 3) := by decide +kernel
theorem dX4_textOf_17 : decode cX4_textOf 17 = .ok (.iload_n 1, 1) := by decide +kernel
theorem dX4_textOf_18 : decode cX4_textOf 18 = .ok (.aaload, 1) := by decide +kernel
theorem dX4_textOf_19 : decode cX4_textOf 19 = .ok (.goto 4, 3) := by decide +kernel
theorem dX4_textOf_22 : decode cX4_textOf 22 = .ok (.aconst_null, 1) := by decide +kernel
theorem dX4_textOf_23 : decode cX4_textOf 23 = .ok (.areturn, 1) := by decide +kernel
theorem dX4_cutterOf_0 : decode cX4_cutterOf 0 = .ok (.iload_n 1, 1) := by decide +kernel
theorem dX4_cutterOf_1 : decode cX4_cutterOf 1 = .ok (.ifCond .lt 21, 3) := by decide +kernel
theorem dX4_cutterOf_4 : decode cX4_cutterOf 4 = .ok (.iload_n 1, 1) := by decide +kernel
theorem dX4_cutterOf_5 : decode cX4_cutterOf 5 = .ok (.aload_n 0, 1) := by decide +kernel
theorem dX4_cutterOf_6 : decode cX4_cutterOf 6 = .ok (.getfield 23, 3) := by decide +kernel
theorem dX4_cutterOf_9 : decode cX4_cutterOf 9 = .ok (.arraylength, 1) := by decide +kernel
theorem dX4_cutterOf_10 : decode cX4_cutterOf 10 = .ok (.if_icmp .ge 12, 3) := by decide +kernel
theorem dX4_cutterOf_13 : decode cX4_cutterOf 13 = .ok (.aload_n 0, 1) := by decide +kernel
theorem dX4_cutterOf_14 : decode cX4_cutterOf 14 = .ok (.getfield 23, 3) := by decide +kernel
theorem dX4_cutterOf_17 : decode cX4_cutterOf 17 = .ok (.iload_n 1, 1) := by decide +kernel
theorem dX4_cutterOf_18 : decode cX4_cutterOf 18 = .ok (.aaload, 1) := by decide +kernel
theorem dX4_cutterOf_19 : decode cX4_cutterOf 19 = .ok (.goto 4, 3) := by decide +kernel
theorem dX4_cutterOf_22 : decode cX4_cutterOf 22 = .ok (.aconst_null, 1) := by decide +kernel
theorem dX4_cutterOf_23 : decode cX4_cutterOf 23 = .ok (.areturn, 1) := by decide +kernel
theorem dX4_textOrFour_0 : decode cX4_textOrFour 0 = .ok (.aload_n 0, 1) := by decide +kernel
theorem dX4_textOrFour_1 : decode cX4_textOrFour 1 = .ok (.iload_n 1, 1) := by decide +kernel
theorem dX4_textOrFour_2 : decode cX4_textOrFour 2 = .ok (.invokevirtual 97, 3) := by decide +kernel
theorem dX4_textOrFour_5 : decode cX4_textOrFour 5 = .ok (.astore_n 2, 1) := by decide +kernel
theorem dX4_textOrFour_6 : decode cX4_textOrFour 6 = .ok (.aload_n 2, 1) := by decide +kernel
theorem dX4_textOrFour_7 : decode cX4_textOrFour 7 = .ok (.ifnonnull 5, 3) := by decide +kernel
theorem dX4_textOrFour_10 : decode cX4_textOrFour 10 = .ok (.aconst_null, 1) := by decide +kernel
theorem dX4_textOrFour_11 : decode cX4_textOrFour 11 = .ok (.areturn, 1) := by decide +kernel
theorem dX4_textOrFour_12 : decode cX4_textOrFour 12 = .ok (.aload_n 2, 1) := by decide +kernel
theorem dX4_textOrFour_13 : decode cX4_textOrFour 13 = .ok (.getfield 101, 3) := by decide +kernel
theorem dX4_textOrFour_16 : decode cX4_textOrFour 16 = .ok (.ifCond .eq 10, 3) := by decide +kernel
theorem dX4_textOrFour_19 : decode cX4_textOrFour 19 = .ok (.aload_n 0, 1) := by decide +kernel
theorem dX4_textOrFour_20 : decode cX4_textOrFour 20 = .ok (.getfield 35, 3) := by decide +kernel
theorem dX4_textOrFour_23 : decode cX4_textOrFour 23 = .ok (.goto 7, 3) := by decide +kernel
theorem dX4_textOrFour_26 : decode cX4_textOrFour 26 = .ok (.aload_n 2, 1) := by decide +kernel
theorem dX4_textOrFour_27 : decode cX4_textOrFour 27 = .ok (.getfield 105, 3) := by decide +kernel
theorem dX4_textOrFour_30 : decode cX4_textOrFour 30 = .ok (.areturn, 1) := by decide +kernel
theorem dX4_nothing_0 : decode cX4_nothing 0 = .ok (.aload_n 0, 1) := by decide +kernel
theorem dX4_nothing_1 : decode cX4_nothing 1 = .ok (.getfield 39, 3) := by decide +kernel
theorem dX4_nothing_4 : decode cX4_nothing 4 = .ok (.invokevirtual 235, 3) := by decide +kernel
theorem dX4_nothing_7 : decode cX4_nothing 7 = .ok (.aload_n 0, 1) := by decide +kernel
theorem dX4_nothing_8 : decode cX4_nothing 8 = .ok (.getfield 39, 3) := by decide +kernel
theorem dX4_nothing_11 : decode cX4_nothing 11 = .ok (.areturn, 1) := by decide +kernel
theorem dX4_single_0 : decode cX4_single 0 = .ok (.aload_n 0, 1) := by decide +kernel
theorem dX4_single_1 : decode cX4_single 1 = .ok (.getfield 39, 3) := by decide +kernel
theorem dX4_single_4 : decode cX4_single 4 = .ok (.invokevirtual 235, 3) := by decide +kernel
theorem dX4_single_7 : decode cX4_single 7 = .ok (.aload_n 0, 1) := by decide +kernel
theorem dX4_single_8 : decode cX4_single 8 = .ok (.getfield 39, 3) := by decide +kernel
theorem dX4_single_11 : decode cX4_single 11 = .ok (.iload_n 1, 1) := by decide +kernel
theorem dX4_single_12 : decode cX4_single 12 = .ok (.invokevirtual 48, 3) := by decide +kernel
theorem dX4_single_15 : decode cX4_single 15 = .ok (.aload_n 0, 1) := by decide +kernel
theorem dX4_single_16 : decode cX4_single 16 = .ok (.getfield 39, 3) := by decide +kernel
theorem dX4_single_19 : decode cX4_single 19 = .ok (.areturn, 1) := by decide +kernel
theorem dX4_lowBytes_0 : decode cX4_lowBytes 0 = .ok (.aload_n 0, 1) := by decide +kernel
theorem dX4_lowBytes_1 : decode cX4_lowBytes 1 = .ok (.getfield 39, 3) := by decide +kernel
theorem dX4_lowBytes_4 : decode cX4_lowBytes 4 = .ok (.invokevirtual 235, 3) := by decide +kernel
theorem dX4_lowBytes_7 : decode cX4_lowBytes 7 = .ok (.iload_n 1, 1) := by decide +kernel
theorem dX4_lowBytes_8 : decode cX4_lowBytes 8 = .ok (.iconst 1, 1) := by decide +kernel
theorem dX4_lowBytes_9 : decode cX4_lowBytes 9 = .ok (.isub, 1) := by decide +kernel
theorem dX4_lowBytes_10 : decode cX4_lowBytes 10 = .ok (.istore 4, 2) := by decide +kernel
theorem dX4_lowBytes_12 : decode cX4_lowBytes 12 = .ok (.iload 4, 2) := by decide +kernel
theorem dX4_lowBytes_14 : decode cX4_lowBytes 14 = .ok (.ifCond .lt 28, 3) := by decide +kernel
theorem dX4_lowBytes_17 : decode cX4_lowBytes 17 = .ok (.aload_n 0, 1) := by decide +kernel
theorem dX4_lowBytes_18 : decode cX4_lowBytes 18 = .ok (.getfield 39, 3) := by decide +kernel
theorem dX4_lowBytes_21 : decode cX4_lowBytes 21 = .ok (.lload_n 2, 1) := by decide +kernel
theorem dX4_lowBytes_22 : decode cX4_lowBytes 22 = .ok (.bipush 8, 2) := by decide +kernel
theorem dX4_lowBytes_24 : decode cX4_lowBytes 24 = .ok (.iload 4, 2) := by decide +kernel
theorem dX4_lowBytes_26 : decode cX4_lowBytes 26 = .ok (.imul, 1) := by decide +kernel
theorem dX4_lowBytes_27 : decode cX4_lowBytes 27 = .ok (.lushr, 1) := by decide +kernel
theorem dX4_lowBytes_28 : decode cX4_lowBytes 28 = .ok (.l2i, 1) := by decide +kernel
theorem dX4_lowBytes_29 : decode cX4_lowBytes 29 = .ok (.sipush 255, 3) := by decide +kernel
theorem dX4_lowBytes_32 : decode cX4_lowBytes 32 = .ok (.iand, 1) := by decide +kernel
theorem dX4_lowBytes_33 : decode cX4_lowBytes 33 = .ok (.invokevirtual 48, 3) := by decide +kernel
theorem dX4_lowBytes_36 : decode cX4_lowBytes 36 = .ok (.iinc 4 (-1), 3) := by decide +kernel
theorem dX4_lowBytes_39 : decode cX4_lowBytes 39 = .ok (.goto (-27), 3) := by decide +kernel
theorem dX4_lowBytes_42 : decode cX4_lowBytes 42 = .ok (.aload_n 0, 1) := by decide +kernel
theorem dX4_lowBytes_43 : decode cX4_lowBytes 43 = .ok (.getfield 39, 3) := by decide +kernel
theorem dX4_lowBytes_46 : decode cX4_lowBytes 46 = .ok (.areturn, 1) := by decide +kernel
theorem dX4_figures_0 : decode cX4_figures 0 = .ok (.aload_n 0, 1) := by decide +kernel
theorem dX4_figures_1 : decode cX4_figures 1 = .ok (.getfield 39, 3) := by decide +kernel
theorem dX4_figures_4 : decode cX4_figures 4 = .ok (.invokevirtual 235, 3) := by decide +kernel
theorem dX4_figures_7 : decode cX4_figures 7 = .ok (.lload_n 1, 1) := by decide +kernel
theorem dX4_figures_8 : decode cX4_figures 8 = .ok (.lstore_n 3, 1) := by decide +kernel
theorem dX4_figures_9 : decode cX4_figures 9 = .ok (.iconst 0, 1) := by decide +kernel
theorem dX4_figures_10 : decode cX4_figures 10 = .ok (.istore 5, 2) := by decide +kernel
theorem dX4_figures_12 : decode cX4_figures 12 = .ok (.iload 5, 2) := by decide +kernel
theorem dX4_figures_14 : decode cX4_figures 14 = .ok (.bipush 19, 2) := by decide +kernel
theorem dX4_figures_16 : decode cX4_figures 16 = .ok (.if_icmp .ge 45, 3) := by decide +kernel
theorem dX4_figures_19 : decode cX4_figures 19 = .ok (.iload 5, 2) := by decide +kernel
theorem dX4_figures_21 : decode cX4_figures 21 = .ok (.ifCond .eq 9, 3) := by decide +kernel
theorem dX4_figures_24 : decode cX4_figures 24 = .ok (.lload_n 3, 1) := by decide +kernel
theorem dX4_figures_25 : decode cX4_figures 25 = .ok (.lconst 0, 1) := by decide +kernel
theorem dX4_figures_26 : decode cX4_figures 26 = .ok (.lcmp, 1) := by decide +kernel
theorem dX4_figures_27 : decode cX4_figures 27 = .ok (.ifCond .eq 34, 3) := by decide +kernel
theorem dX4_figures_30 : decode cX4_figures 30 = .ok (.aload_n 0, 1) := by decide +kernel
theorem dX4_figures_31 : decode cX4_figures 31 = .ok (.getfield 39, 3) := by decide +kernel
theorem dX4_figures_34 : decode cX4_figures 34 = .ok (.bipush 48, 2) := by decide +kernel
theorem dX4_figures_36 : decode cX4_figures 36 = .ok (.lload_n 3, 1) := by decide +kernel
theorem dX4_figures_37 : decode cX4_figures 37 = .ok (.ldc2_w 238, 3) := by decide +kernel
theorem dX4_figures_40 : decode cX4_figures 40 = .ok (.lrem, 1) := by decide +kernel
theorem dX4_figures_41 : decode cX4_figures 41 = .ok (.l2i, 1) := by decide +kernel
theorem dX4_figures_42 : decode cX4_figures 42 = .ok (.invokestatic 240, 3) := by decide +kernel
theorem dX4_figures_45 : decode cX4_figures 45 = .ok (.iadd, 1) := by decide +kernel
theorem dX4_figures_46 : decode cX4_figures 46 = .ok (.invokevirtual 48, 3) := by decide +kernel
theorem dX4_figures_49 : decode cX4_figures 49 = .ok (.lload_n 3, 1) := by decide +kernel
theorem dX4_figures_50 : decode cX4_figures 50 = .ok (.ldc2_w 238, 3) := by decide +kernel
theorem dX4_figures_53 : decode cX4_figures 53 = .ok (.ldiv, 1) := by decide +kernel
theorem dX4_figures_54 : decode cX4_figures 54 = .ok (.lstore_n 3, 1) := by decide +kernel
theorem dX4_figures_55 : decode cX4_figures 55 = .ok (.iinc 5 1, 3) := by decide +kernel
theorem dX4_figures_58 : decode cX4_figures 58 = .ok (.goto (-46), 3) := by decide +kernel
theorem dX4_figures_61 : decode cX4_figures 61 = .ok (.lload_n 1, 1) := by decide +kernel
theorem dX4_figures_62 : decode cX4_figures 62 = .ok (.lconst 0, 1) := by decide +kernel
theorem dX4_figures_63 : decode cX4_figures 63 = .ok (.lcmp, 1) := by decide +kernel
theorem dX4_figures_64 : decode cX4_figures 64 = .ok (.ifCond .ge 12, 3) := by decide +kernel
theorem dX4_figures_67 : decode cX4_figures 67 = .ok (.aload_n 0, 1) := by decide +kernel
theorem dX4_figures_68 : decode cX4_figures 68 = .ok (.getfield 39, 3) := by decide +kernel
theorem dX4_figures_71 : decode cX4_figures 71 = .ok (.bipush 45, 2) := by decide +kernel
theorem dX4_figures_73 : decode cX4_figures 73 = .ok (.invokevirtual 48, 3) := by decide +kernel
theorem dX4_figures_76 : decode cX4_figures 76 = .ok (.aload_n 0, 1) := by decide +kernel
theorem dX4_figures_77 : decode cX4_figures 77 = .ok (.getfield 39, 3) := by decide +kernel
theorem dX4_figures_80 : decode cX4_figures 80 = .ok (.invokevirtual 108, 3) := by decide +kernel
theorem dX4_figures_83 : decode cX4_figures 83 = .ok (.aload_n 0, 1) := by decide +kernel
theorem dX4_figures_84 : decode cX4_figures 84 = .ok (.getfield 39, 3) := by decide +kernel
theorem dX4_figures_87 : decode cX4_figures 87 = .ok (.areturn, 1) := by decide +kernel
theorem dJ6_compare_7cf53_0 : decode cJ6_compare_7cf53 0 = .ok (.iload_n 0, 1) := by decide +kernel
theorem dJ6_compare_7cf53_1 : decode cJ6_compare_7cf53 1 = .ok (.iload_n 1, 1) := by decide +kernel
theorem dJ6_compare_7cf53_2 : decode cJ6_compare_7cf53 2 = .ok (.if_icmp .ge 7, 3) := by decide +kernel
theorem dJ6_compare_7cf53_5 : decode cJ6_compare_7cf53 5 = .ok (.iconst (-1), 1) := by decide +kernel
theorem dJ6_compare_7cf53_6 : decode cJ6_compare_7cf53 6 = .ok (.goto 13, 3) := by decide +kernel
theorem dJ6_compare_7cf53_9 : decode cJ6_compare_7cf53 9 = .ok (.iload_n 0, 1) := by decide +kernel
theorem dJ6_compare_7cf53_10 : decode cJ6_compare_7cf53 10 = .ok (.iload_n 1, 1) := by decide +kernel
theorem dJ6_compare_7cf53_11 : decode cJ6_compare_7cf53 11 = .ok (.if_icmp .ne 7, 3) := by decide +kernel
theorem dJ6_compare_7cf53_14 : decode cJ6_compare_7cf53 14 = .ok (.iconst 0, 1) := by decide +kernel
theorem dJ6_compare_7cf53_15 : decode cJ6_compare_7cf53 15 = .ok (.goto 4, 3) := by decide +kernel
theorem dJ6_compare_7cf53_18 : decode cJ6_compare_7cf53 18 = .ok (.iconst 1, 1) := by decide +kernel
theorem dJ6_compare_7cf53_19 : decode cJ6_compare_7cf53 19 = .ok (.ireturn, 1) := by decide +kernel
theorem dJ9_abs_0f7a4_0 : decode cJ9_abs_0f7a4 0 = .ok (.iload_n 0, 1) := by decide +kernel
theorem dJ9_abs_0f7a4_1 : decode cJ9_abs_0f7a4 1 = .ok (.ifCond .ge 8, 3) := by decide +kernel
theorem dJ9_abs_0f7a4_4 : decode cJ9_abs_0f7a4 4 = .ok (.iload_n 0, 1) := by decide +kernel
theorem dJ9_abs_0f7a4_5 : decode cJ9_abs_0f7a4 5 = .ok (.ineg, 1) := by decide +kernel
theorem dJ9_abs_0f7a4_6 : decode cJ9_abs_0f7a4 6 = .ok (.goto 4, 3) := by decide +kernel
theorem dJ9_abs_0f7a4_9 : decode cJ9_abs_0f7a4 9 = .ok (.iload_n 0, 1) := by decide +kernel
theorem dJ9_abs_0f7a4_10 : decode cJ9_abs_0f7a4 10 = .ok (.ireturn, 1) := by decide +kernel
theorem dJ9_max_7cf53_0 : decode cJ9_max_7cf53 0 = .ok (.iload_n 0, 1) := by decide +kernel
theorem dJ9_max_7cf53_1 : decode cJ9_max_7cf53 1 = .ok (.iload_n 1, 1) := by decide +kernel
theorem dJ9_max_7cf53_2 : decode cJ9_max_7cf53 2 = .ok (.if_icmp .lt 7, 3) := by decide +kernel
theorem dJ9_max_7cf53_5 : decode cJ9_max_7cf53 5 = .ok (.iload_n 0, 1) := by decide +kernel
theorem dJ9_max_7cf53_6 : decode cJ9_max_7cf53 6 = .ok (.goto 4, 3) := by decide +kernel
theorem dJ9_max_7cf53_9 : decode cJ9_max_7cf53 9 = .ok (.iload_n 1, 1) := by decide +kernel
theorem dJ9_max_7cf53_10 : decode cJ9_max_7cf53 10 = .ok (.ireturn, 1) := by decide +kernel
theorem dJ9_min_7cf53_0 : decode cJ9_min_7cf53 0 = .ok (.iload_n 0, 1) := by decide +kernel
theorem dJ9_min_7cf53_1 : decode cJ9_min_7cf53 1 = .ok (.iload_n 1, 1) := by decide +kernel
theorem dJ9_min_7cf53_2 : decode cJ9_min_7cf53 2 = .ok (.if_icmp .gt 7, 3) := by decide +kernel
theorem dJ9_min_7cf53_5 : decode cJ9_min_7cf53 5 = .ok (.iload_n 0, 1) := by decide +kernel
theorem dJ9_min_7cf53_6 : decode cJ9_min_7cf53 6 = .ok (.goto 4, 3) := by decide +kernel
theorem dJ9_min_7cf53_9 : decode cJ9_min_7cf53 9 = .ok (.iload_n 1, 1) := by decide +kernel
theorem dJ9_min_7cf53_10 : decode cJ9_min_7cf53 10 = .ok (.ireturn, 1) := by decide +kernel

theorem dX0_init_0 : decode cX0_init 0 = .ok (.aload_n 0, 1) := by decide +kernel
theorem dX0_init_1 : decode cX0_init 1 = .ok (.invokespecial 3, 3) := by decide +kernel
theorem dX0_init_4 : decode cX0_init 4 = .ok (.aload_n 0, 1) := by decide +kernel
theorem dX0_init_5 : decode cX0_init 5 = .ok (.aload_n 1, 1) := by decide +kernel
theorem dX0_init_6 : decode cX0_init 6 = .ok (.putfield 9, 3) := by decide +kernel
theorem dX0_init_9 : decode cX0_init 9 = .ok (.aload_n 0, 1) := by decide +kernel
theorem dX0_init_10 : decode cX0_init 10 = .ok (.iload_n 2, 1) := by decide +kernel
theorem dX0_init_11 : decode cX0_init 11 = .ok (.putfield 15, 3) := by decide +kernel
theorem dX0_init_14 : decode cX0_init 14 = .ok (.aload_n 0, 1) := by decide +kernel
theorem dX0_init_15 : decode cX0_init 15 = .ok (.iload_n 3, 1) := by decide +kernel
theorem dX0_init_16 : decode cX0_init 16 = .ok (.putfield 19, 3) := by decide +kernel
theorem dX0_init_19 : decode cX0_init 19 = .ok (.return_, 1) := by decide +kernel
theorem dX0_isDry_0 : decode cX0_isDry 0 = .ok (.aload_n 0, 1) := by decide +kernel
theorem dX0_isDry_1 : decode cX0_isDry 1 = .ok (.getfield 22, 3) := by decide +kernel
theorem dX0_isDry_4 : decode cX0_isDry 4 = .ok (.aload_n 0, 1) := by decide +kernel
theorem dX0_isDry_5 : decode cX0_isDry 5 = .ok (.getfield 9, 3) := by decide +kernel
theorem dX0_isDry_8 : decode cX0_isDry 8 = .ok (.getfield 25, 3) := by decide +kernel
theorem dX0_isDry_11 : decode cX0_isDry 11 = .ok (.aload_n 0, 1) := by decide +kernel
theorem dX0_isDry_12 : decode cX0_isDry 12 = .ok (.getfield 15, 3) := by decide +kernel
theorem dX0_isDry_15 : decode cX0_isDry 15 = .ok (.imul, 1) := by decide +kernel
theorem dX0_isDry_16 : decode cX0_isDry 16 = .ok (.if_icmp .lt 7, 3) := by decide +kernel
theorem dX0_isDry_19 : decode cX0_isDry 19 = .ok (.iconst 1, 1) := by decide +kernel
theorem dX0_isDry_20 : decode cX0_isDry 20 = .ok (.goto 4, 3) := by decide +kernel
theorem dX0_isDry_23 : decode cX0_isDry 23 = .ok (.iconst 0, 1) := by decide +kernel
theorem dX0_isDry_24 : decode cX0_isDry 24 = .ok (.ireturn, 1) := by decide +kernel
theorem dX0_bondsOn_0 : decode cX0_bondsOn 0 = .ok (.aload_n 0, 1) := by decide +kernel
theorem dX0_bondsOn_1 : decode cX0_bondsOn 1 = .ok (.getfield 9, 3) := by decide +kernel
theorem dX0_bondsOn_4 : decode cX0_bondsOn 4 = .ok (.getfield 30, 3) := by decide +kernel
theorem dX0_bondsOn_7 : decode cX0_bondsOn 7 = .ok (.aload_n 0, 1) := by decide +kernel
theorem dX0_bondsOn_8 : decode cX0_bondsOn 8 = .ok (.getfield 15, 3) := by decide +kernel
theorem dX0_bondsOn_11 : decode cX0_bondsOn 11 = .ok (.imul, 1) := by decide +kernel
theorem dX0_bondsOn_12 : decode cX0_bondsOn 12 = .ok (.iload_n 1, 1) := by decide +kernel
theorem dX0_bondsOn_13 : decode cX0_bondsOn 13 = .ok (.if_icmp .gt 7, 3) := by decide +kernel
theorem dX0_bondsOn_16 : decode cX0_bondsOn 16 = .ok (.iconst 1, 1) := by decide +kernel
theorem dX0_bondsOn_17 : decode cX0_bondsOn 17 = .ok (.goto 4, 3) := by decide +kernel
theorem dX0_bondsOn_20 : decode cX0_bondsOn 20 = .ok (.iconst 0, 1) := by decide +kernel
theorem dX0_bondsOn_21 : decode cX0_bondsOn 21 = .ok (.ireturn, 1) := by decide +kernel
theorem dX0_driesBy_0 : decode cX0_driesBy 0 = .ok (.aload_n 0, 1) := by decide +kernel
theorem dX0_driesBy_1 : decode cX0_driesBy 1 = .ok (.invokevirtual 33, 3) := by decide +kernel
theorem dX0_driesBy_4 : decode cX0_driesBy 4 = .ok (.ifCond .eq 5, 3) := by decide +kernel
theorem dX0_driesBy_7 : decode cX0_driesBy 7 = .ok (.iconst 0, 1) := by decide +kernel
theorem dX0_driesBy_8 : decode cX0_driesBy 8 = .ok (.ireturn, 1) := by decide +kernel
theorem dX0_driesBy_9 : decode cX0_driesBy 9 = .ok (.aload_n 0, 1) := by decide +kernel
theorem dX0_driesBy_10 : decode cX0_driesBy 10 = .ok (.dup, 1) := by decide +kernel
theorem dX0_driesBy_11 : decode cX0_driesBy 11 = .ok (.getfield 22, 3) := by decide +kernel
theorem dX0_driesBy_14 : decode cX0_driesBy 14 = .ok (.iload_n 1, 1) := by decide +kernel
theorem dX0_driesBy_15 : decode cX0_driesBy 15 = .ok (.iadd, 1) := by decide +kernel
theorem dX0_driesBy_16 : decode cX0_driesBy 16 = .ok (.putfield 22, 3) := by decide +kernel
theorem dX0_driesBy_19 : decode cX0_driesBy 19 = .ok (.aload_n 0, 1) := by decide +kernel
theorem dX0_driesBy_20 : decode cX0_driesBy 20 = .ok (.invokevirtual 33, 3) := by decide +kernel
theorem dX0_driesBy_23 : decode cX0_driesBy 23 = .ok (.ifCond .ne 5, 3) := by decide +kernel
theorem dX0_driesBy_26 : decode cX0_driesBy 26 = .ok (.iconst 0, 1) := by decide +kernel
theorem dX0_driesBy_27 : decode cX0_driesBy 27 = .ok (.ireturn, 1) := by decide +kernel
theorem dX0_driesBy_28 : decode cX0_driesBy 28 = .ok (.aload_n 0, 1) := by decide +kernel
theorem dX0_driesBy_29 : decode cX0_driesBy 29 = .ok (.getfield 9, 3) := by decide +kernel
theorem dX0_driesBy_32 : decode cX0_driesBy 32 = .ok (.getstatic 37, 3) := by decide +kernel
theorem dX0_driesBy_35 : decode cX0_driesBy 35 = .ok (.if_acmp .ne 14, 3) := by decide +kernel
theorem dX0_driesBy_38 : decode cX0_driesBy 38 = .ok (.iload_n 2, 1) := by decide +kernel
theorem dX0_driesBy_39 : decode cX0_driesBy 39 = .ok (.bipush 30, 2) := by decide +kernel
theorem dX0_driesBy_41 : decode cX0_driesBy 41 = .ok (.if_icmp .lt 8, 3) := by decide +kernel
theorem dX0_driesBy_44 : decode cX0_driesBy 44 = .ok (.aload_n 0, 1) := by decide +kernel
theorem dX0_driesBy_45 : decode cX0_driesBy 45 = .ok (.iconst 1, 1) := by decide +kernel
theorem dX0_driesBy_46 : decode cX0_driesBy 46 = .ok (.putfield 40, 3) := by decide +kernel
theorem dX0_driesBy_49 : decode cX0_driesBy 49 = .ok (.iconst 1, 1) := by decide +kernel
theorem dX0_driesBy_50 : decode cX0_driesBy 50 = .ok (.ireturn, 1) := by decide +kernel
theorem dX0_countPaid_0 : decode cX0_countPaid 0 = .ok (.iload_n 1, 1) := by decide +kernel
theorem dX0_countPaid_1 : decode cX0_countPaid 1 = .ok (.tableswitch 54 2 4 #[27, 32, 45], 27) := by decide +kernel
theorem dX0_countPaid_28 : decode cX0_countPaid 28 = .ok (.aload_n 0, 1) := by decide +kernel
theorem dX0_countPaid_29 : decode cX0_countPaid 29 = .ok (.getfield 15, 3) := by decide +kernel
theorem dX0_countPaid_32 : decode cX0_countPaid 32 = .ok (.ireturn, 1) := by decide +kernel
theorem dX0_countPaid_33 : decode cX0_countPaid 33 = .ok (.aload_n 0, 1) := by decide +kernel
theorem dX0_countPaid_34 : decode cX0_countPaid 34 = .ok (.getfield 40, 3) := by decide +kernel
theorem dX0_countPaid_37 : decode cX0_countPaid 37 = .ok (.ifCond .eq 7, 3) := by decide +kernel
theorem dX0_countPaid_40 : decode cX0_countPaid 40 = .ok (.iconst 0, 1) := by decide +kernel
theorem dX0_countPaid_41 : decode cX0_countPaid 41 = .ok (.goto 4, 3) := by decide +kernel
theorem dX0_countPaid_44 : decode cX0_countPaid 44 = .ok (.iconst 1, 1) := by decide +kernel
theorem dX0_countPaid_45 : decode cX0_countPaid 45 = .ok (.ireturn, 1) := by decide +kernel
theorem dX0_countPaid_46 : decode cX0_countPaid 46 = .ok (.aload_n 0, 1) := by decide +kernel
theorem dX0_countPaid_47 : decode cX0_countPaid 47 = .ok (.getfield 15, 3) := by decide +kernel
theorem dX0_countPaid_50 : decode cX0_countPaid 50 = .ok (.iconst 3, 1) := by decide +kernel
theorem dX0_countPaid_51 : decode cX0_countPaid 51 = .ok (.invokestatic 44, 3) := by decide +kernel
theorem dX0_countPaid_54 : decode cX0_countPaid 54 = .ok (.ireturn, 1) := by decide +kernel
theorem dX0_countPaid_55 : decode cX0_countPaid 55 = .ok (.iconst 1, 1) := by decide +kernel
theorem dX0_countPaid_56 : decode cX0_countPaid 56 = .ok (.ireturn, 1) := by decide +kernel
theorem dX0_inWords_0 : decode cX0_inWords 0 = .ok (.new 50, 3) := by decide +kernel
theorem dX0_inWords_3 : decode cX0_inWords 3 = .ok (.dup, 1) := by decide +kernel
theorem dX0_inWords_4 : decode cX0_inWords 4 = .ok (.invokespecial 52, 3) := by decide +kernel
theorem dX0_inWords_7 : decode cX0_inWords 7 = .ok (.astore_n 1, 1) := by decide +kernel
theorem dX0_inWords_8 : decode cX0_inWords 8 = .ok (.aload_n 1, 1) := by decide +kernel
theorem dX0_inWords_9 : decode cX0_inWords 9 = .ok (.aload_n 0, 1) := by decide +kernel
theorem dX0_inWords_10 : decode cX0_inWords 10 = .ok (.getfield 9, 3) := by decide +kernel
theorem dX0_inWords_13 : decode cX0_inWords 13 = .ok (.getfield 53, 3) := by decide +kernel
theorem dX0_inWords_16 : decode cX0_inWords 16 = .ok (.invokevirtual 57, 3) := by decide +kernel
theorem dX0_inWords_19 : decode cX0_inWords 19 = .ok (.bipush 32, 2) := by decide +kernel
theorem dX0_inWords_21 : decode cX0_inWords 21 = .ok (.invokevirtual 61, 3) := by decide +kernel
theorem dX0_inWords_24 : decode cX0_inWords 24 = .ok (.aload_n 0, 1) := by decide +kernel
theorem dX0_inWords_25 : decode cX0_inWords 25 = .ok (.getfield 15, 3) := by decide +kernel
theorem dX0_inWords_28 : decode cX0_inWords 28 = .ok (.invokevirtual 64, 3) := by decide +kernel
theorem dX0_inWords_31 : decode cX0_inWords 31 = .ok (.ldc 67, 2) := by decide +kernel
theorem dX0_inWords_33 : decode cX0_inWords 33 = .ok (.invokevirtual 57, 3) := by decide +kernel
theorem dX0_inWords_36 : decode cX0_inWords 36 = .ok (.pop, 1) := by decide +kernel
theorem dX0_inWords_37 : decode cX0_inWords 37 = .ok (.aload_n 0, 1) := by decide +kernel
theorem dX0_inWords_38 : decode cX0_inWords 38 = .ok (.invokevirtual 33, 3) := by decide +kernel
theorem dX0_inWords_41 : decode cX0_inWords 41 = .ok (.ifCond .eq 10, 3) := by decide +kernel
theorem dX0_inWords_44 : decode cX0_inWords 44 = .ok (.aload_n 1, 1) := by decide +kernel
theorem dX0_inWords_45 : decode cX0_inWords 45 = .ok (.ldc 69, 2) := by decide +kernel
theorem dX0_inWords_47 : decode cX0_inWords 47 = .ok (.invokevirtual 57, 3) := by decide +kernel
theorem dX0_inWords_50 : decode cX0_inWords 50 = .ok (.pop, 1) := by decide +kernel
theorem dX0_inWords_51 : decode cX0_inWords 51 = .ok (.aload_n 0, 1) := by decide +kernel
theorem dX0_inWords_52 : decode cX0_inWords 52 = .ok (.getfield 40, 3) := by decide +kernel
theorem dX0_inWords_55 : decode cX0_inWords 55 = .ok (.ifCond .eq 10, 3) := by decide +kernel
theorem dX0_inWords_58 : decode cX0_inWords 58 = .ok (.aload_n 1, 1) := by decide +kernel
theorem dX0_inWords_59 : decode cX0_inWords 59 = .ok (.ldc 71, 2) := by decide +kernel
theorem dX0_inWords_61 : decode cX0_inWords 61 = .ok (.invokevirtual 57, 3) := by decide +kernel
theorem dX0_inWords_64 : decode cX0_inWords 64 = .ok (.pop, 1) := by decide +kernel
theorem dX0_inWords_65 : decode cX0_inWords 65 = .ok (.aload_n 1, 1) := by decide +kernel
theorem dX0_inWords_66 : decode cX0_inWords 66 = .ok (.areturn, 1) := by decide +kernel
theorem dX1_init_0 : decode cX1_init 0 = .ok (.aload_n 0, 1) := by decide +kernel
theorem dX1_init_1 : decode cX1_init 1 = .ok (.invokespecial 1, 3) := by decide +kernel
theorem dX1_init_4 : decode cX1_init 4 = .ok (.aload_n 0, 1) := by decide +kernel
theorem dX1_init_5 : decode cX1_init 5 = .ok (.iload_n 1, 1) := by decide +kernel
theorem dX1_init_6 : decode cX1_init 6 = .ok (.putfield 7, 3) := by decide +kernel
theorem dX1_init_9 : decode cX1_init 9 = .ok (.aload_n 0, 1) := by decide +kernel
theorem dX1_init_10 : decode cX1_init 10 = .ok (.iload_n 2, 1) := by decide +kernel
theorem dX1_init_11 : decode cX1_init 11 = .ok (.putfield 13, 3) := by decide +kernel
theorem dX1_init_14 : decode cX1_init 14 = .ok (.aload_n 0, 1) := by decide +kernel
theorem dX1_init_15 : decode cX1_init 15 = .ok (.iload_n 3, 1) := by decide +kernel
theorem dX1_init_16 : decode cX1_init 16 = .ok (.putfield 16, 3) := by decide +kernel
theorem dX1_init_19 : decode cX1_init 19 = .ok (.aload_n 0, 1) := by decide +kernel
theorem dX1_init_20 : decode cX1_init 20 = .ok (.iload 4, 2) := by decide +kernel
theorem dX1_init_22 : decode cX1_init 22 = .ok (.putfield 19, 3) := by decide +kernel
theorem dX1_init_25 : decode cX1_init 25 = .ok (.return_, 1) := by decide +kernel
theorem dX1_isOf_0 : decode cX1_isOf 0 = .ok (.aload_n 0, 1) := by decide +kernel
theorem dX1_isOf_1 : decode cX1_isOf 1 = .ok (.getfield 7, 3) := by decide +kernel
theorem dX1_isOf_4 : decode cX1_isOf 4 = .ok (.iload_n 1, 1) := by decide +kernel
theorem dX1_isOf_5 : decode cX1_isOf 5 = .ok (.if_icmp .ne 23, 3) := by decide +kernel
theorem dX1_isOf_8 : decode cX1_isOf 8 = .ok (.aload_n 0, 1) := by decide +kernel
theorem dX1_isOf_9 : decode cX1_isOf 9 = .ok (.getfield 13, 3) := by decide +kernel
theorem dX1_isOf_12 : decode cX1_isOf 12 = .ok (.iload_n 2, 1) := by decide +kernel
theorem dX1_isOf_13 : decode cX1_isOf 13 = .ok (.if_icmp .gt 15, 3) := by decide +kernel
theorem dX1_isOf_16 : decode cX1_isOf 16 = .ok (.iload_n 2, 1) := by decide +kernel
theorem dX1_isOf_17 : decode cX1_isOf 17 = .ok (.aload_n 0, 1) := by decide +kernel
theorem dX1_isOf_18 : decode cX1_isOf 18 = .ok (.getfield 16, 3) := by decide +kernel
theorem dX1_isOf_21 : decode cX1_isOf 21 = .ok (.if_icmp .gt 7, 3) := by decide +kernel
theorem dX1_isOf_24 : decode cX1_isOf 24 = .ok (.iconst 1, 1) := by decide +kernel
theorem dX1_isOf_25 : decode cX1_isOf 25 = .ok (.goto 4, 3) := by decide +kernel
theorem dX1_isOf_28 : decode cX1_isOf 28 = .ok (.iconst 0, 1) := by decide +kernel
theorem dX1_isOf_29 : decode cX1_isOf 29 = .ok (.ireturn, 1) := by decide +kernel
theorem dX2_init_0 : decode cX2_init 0 = .ok (.aload_n 0, 1) := by decide +kernel
theorem dX2_init_1 : decode cX2_init 1 = .ok (.invokespecial 3, 3) := by decide +kernel
theorem dX2_init_4 : decode cX2_init 4 = .ok (.aload_n 0, 1) := by decide +kernel
theorem dX2_init_5 : decode cX2_init 5 = .ok (.new 9, 3) := by decide +kernel
theorem dX2_init_8 : decode cX2_init 8 = .ok (.dup, 1) := by decide +kernel
theorem dX2_init_9 : decode cX2_init 9 = .ok (.invokespecial 11, 3) := by decide +kernel
theorem dX2_init_12 : decode cX2_init 12 = .ok (.putfield 12, 3) := by decide +kernel
theorem dX2_init_15 : decode cX2_init 15 = .ok (.aload_n 0, 1) := by decide +kernel
theorem dX2_init_16 : decode cX2_init 16 = .ok (.bipush 10, 2) := by decide +kernel
theorem dX2_init_18 : decode cX2_init 18 = .ok (.newarray .int, 2) := by decide +kernel
theorem dX2_init_20 : decode cX2_init 20 = .ok (.putfield 18, 3) := by decide +kernel
theorem dX2_init_23 : decode cX2_init 23 = .ok (.aload_n 0, 1) := by decide +kernel
theorem dX2_init_24 : decode cX2_init 24 = .ok (.bipush 48, 2) := by decide +kernel
theorem dX2_init_26 : decode cX2_init 26 = .ok (.newarray .int, 2) := by decide +kernel
theorem dX2_init_28 : decode cX2_init 28 = .ok (.putfield 22, 3) := by decide +kernel
theorem dX2_init_31 : decode cX2_init 31 = .ok (.iconst 0, 1) := by decide +kernel
theorem dX2_init_32 : decode cX2_init 32 = .ok (.istore_n 1, 1) := by decide +kernel
theorem dX2_init_33 : decode cX2_init 33 = .ok (.iload_n 1, 1) := by decide +kernel
theorem dX2_init_34 : decode cX2_init 34 = .ok (.aload_n 0, 1) := by decide +kernel
theorem dX2_init_35 : decode cX2_init 35 = .ok (.getfield 22, 3) := by decide +kernel
theorem dX2_init_38 : decode cX2_init 38 = .ok (.arraylength, 1) := by decide +kernel
theorem dX2_init_39 : decode cX2_init 39 = .ok (.if_icmp .ge 16, 3) := by decide +kernel
theorem dX2_init_42 : decode cX2_init 42 = .ok (.aload_n 0, 1) := by decide +kernel
theorem dX2_init_43 : decode cX2_init 43 = .ok (.getfield 22, 3) := by decide +kernel
theorem dX2_init_46 : decode cX2_init 46 = .ok (.iload_n 1, 1) := by decide +kernel
theorem dX2_init_47 : decode cX2_init 47 = .ok (.iconst (-1), 1) := by decide +kernel
theorem dX2_init_48 : decode cX2_init 48 = .ok (.iastore, 1) := by decide +kernel
theorem dX2_init_49 : decode cX2_init 49 = .ok (.iinc 1 1, 3) := by decide +kernel
theorem dX2_init_52 : decode cX2_init 52 = .ok (.goto (-19), 3) := by decide +kernel
theorem dX2_init_55 : decode cX2_init 55 = .ok (.return_, 1) := by decide +kernel
theorem dX2_windowOf_0 : decode cX2_windowOf 0 = .ok (.iload_n 1, 1) := by decide +kernel
theorem dX2_windowOf_1 : decode cX2_windowOf 1 = .ok (.ifCond .lt 12, 3) := by decide +kernel
theorem dX2_windowOf_4 : decode cX2_windowOf 4 = .ok (.iload_n 1, 1) := by decide +kernel
theorem dX2_windowOf_5 : decode cX2_windowOf 5 = .ok (.aload_n 0, 1) := by decide +kernel
theorem dX2_windowOf_6 : decode cX2_windowOf 6 = .ok (.getfield 18, 3) := by decide +kernel
theorem dX2_windowOf_9 : decode cX2_windowOf 9 = .ok (.arraylength, 1) := by decide +kernel
theorem dX2_windowOf_10 : decode cX2_windowOf 10 = .ok (.if_icmp .lt 7, 3) := by decide +kernel
theorem dX2_windowOf_13 : decode cX2_windowOf 13 = .ok (.iconst 0, 1) := by decide +kernel
theorem dX2_windowOf_14 : decode cX2_windowOf 14 = .ok (.goto 9, 3) := by decide +kernel
theorem dX2_windowOf_17 : decode cX2_windowOf 17 = .ok (.aload_n 0, 1) := by decide +kernel
theorem dX2_windowOf_18 : decode cX2_windowOf 18 = .ok (.getfield 18, 3) := by decide +kernel
theorem dX2_windowOf_21 : decode cX2_windowOf 21 = .ok (.iload_n 1, 1) := by decide +kernel
theorem dX2_windowOf_22 : decode cX2_windowOf 22 = .ok (.iaload, 1) := by decide +kernel
theorem dX2_windowOf_23 : decode cX2_windowOf 23 = .ok (.ireturn, 1) := by decide +kernel
theorem dX2_setWindow_0 : decode cX2_setWindow 0 = .ok (.iload_n 1, 1) := by decide +kernel
theorem dX2_setWindow_1 : decode cX2_setWindow 1 = .ok (.ifCond .lt 19, 3) := by decide +kernel
theorem dX2_setWindow_4 : decode cX2_setWindow 4 = .ok (.iload_n 1, 1) := by decide +kernel
theorem dX2_setWindow_5 : decode cX2_setWindow 5 = .ok (.aload_n 0, 1) := by decide +kernel
theorem dX2_setWindow_6 : decode cX2_setWindow 6 = .ok (.getfield 18, 3) := by decide +kernel
theorem dX2_setWindow_9 : decode cX2_setWindow 9 = .ok (.arraylength, 1) := by decide +kernel
theorem dX2_setWindow_10 : decode cX2_setWindow 10 = .ok (.if_icmp .ge 10, 3) := by decide +kernel
theorem dX2_setWindow_13 : decode cX2_setWindow 13 = .ok (.aload_n 0, 1) := by decide +kernel
theorem dX2_setWindow_14 : decode cX2_setWindow 14 = .ok (.getfield 18, 3) := by decide +kernel
theorem dX2_setWindow_17 : decode cX2_setWindow 17 = .ok (.iload_n 1, 1) := by decide +kernel
theorem dX2_setWindow_18 : decode cX2_setWindow 18 = .ok (.iload_n 2, 1) := by decide +kernel
theorem dX2_setWindow_19 : decode cX2_setWindow 19 = .ok (.iastore, 1) := by decide +kernel
theorem dX2_setWindow_20 : decode cX2_setWindow 20 = .ok (.return_, 1) := by decide +kernel
theorem dX2_countPatches_0 : decode cX2_countPatches 0 = .ok (.aload_n 0, 1) := by decide +kernel
theorem dX2_countPatches_1 : decode cX2_countPatches 1 = .ok (.getfield 12, 3) := by decide +kernel
theorem dX2_countPatches_4 : decode cX2_countPatches 4 = .ok (.invokevirtual 25, 3) := by decide +kernel
theorem dX2_countPatches_7 : decode cX2_countPatches 7 = .ok (.ireturn, 1) := by decide +kernel
theorem dX2_patchAt_0 : decode cX2_patchAt 0 = .ok (.iload_n 1, 1) := by decide +kernel
theorem dX2_patchAt_1 : decode cX2_patchAt 1 = .ok (.ifCond .lt 14, 3) := by decide +kernel
theorem dX2_patchAt_4 : decode cX2_patchAt 4 = .ok (.iload_n 1, 1) := by decide +kernel
theorem dX2_patchAt_5 : decode cX2_patchAt 5 = .ok (.aload_n 0, 1) := by decide +kernel
theorem dX2_patchAt_6 : decode cX2_patchAt 6 = .ok (.getfield 12, 3) := by decide +kernel
theorem dX2_patchAt_9 : decode cX2_patchAt 9 = .ok (.invokevirtual 25, 3) := by decide +kernel
theorem dX2_patchAt_12 : decode cX2_patchAt 12 = .ok (.if_icmp .lt 7, 3) := by decide +kernel
theorem dX2_patchAt_15 : decode cX2_patchAt 15 = .ok (.aconst_null, 1) := by decide +kernel
theorem dX2_patchAt_16 : decode cX2_patchAt 16 = .ok (.goto 14, 3) := by decide +kernel
theorem dX2_patchAt_19 : decode cX2_patchAt 19 = .ok (.aload_n 0, 1) := by decide +kernel
theorem dX2_patchAt_20 : decode cX2_patchAt 20 = .ok (.getfield 12, 3) := by decide +kernel
theorem dX2_patchAt_23 : decode cX2_patchAt 23 = .ok (.iload_n 1, 1) := by decide +kernel
theorem dX2_patchAt_24 : decode cX2_patchAt 24 = .ok (.invokevirtual 29, 3) := by decide +kernel
theorem dX2_patchAt_27 : decode cX2_patchAt 27 = .ok (.checkcast 33, 3) := by decide +kernel
theorem dX2_patchAt_30 : decode cX2_patchAt 30 = .ok (.areturn, 1) := by decide +kernel
theorem dX2_layPatch_0 : decode cX2_layPatch 0 = .ok (.iconst 0, 1) := by decide +kernel
theorem dX2_layPatch_1 : decode cX2_layPatch 1 = .ok (.istore 4, 2) := by decide +kernel
theorem dX2_layPatch_3 : decode cX2_layPatch 3 = .ok (.iload 4, 2) := by decide +kernel
theorem dX2_layPatch_5 : decode cX2_layPatch 5 = .ok (.aload_n 0, 1) := by decide +kernel
theorem dX2_layPatch_6 : decode cX2_layPatch 6 = .ok (.getfield 12, 3) := by decide +kernel
theorem dX2_layPatch_9 : decode cX2_layPatch 9 = .ok (.invokevirtual 25, 3) := by decide +kernel
theorem dX2_layPatch_12 : decode cX2_layPatch 12 = .ok (.if_icmp .ge 34, 3) := by decide +kernel
theorem dX2_layPatch_15 : decode cX2_layPatch 15 = .ok (.aload_n 0, 1) := by decide +kernel
theorem dX2_layPatch_16 : decode cX2_layPatch 16 = .ok (.getfield 12, 3) := by decide +kernel
theorem dX2_layPatch_19 : decode cX2_layPatch 19 = .ok (.iload 4, 2) := by decide +kernel
theorem dX2_layPatch_21 : decode cX2_layPatch 21 = .ok (.invokevirtual 29, 3) := by decide +kernel
theorem dX2_layPatch_24 : decode cX2_layPatch 24 = .ok (.checkcast 33, 3) := by decide +kernel
theorem dX2_layPatch_27 : decode cX2_layPatch 27 = .ok (.dup, 1) := by decide +kernel
theorem dX2_layPatch_28 : decode cX2_layPatch 28 = .ok (.getfield 35, 3) := by decide +kernel
theorem dX2_layPatch_31 : decode cX2_layPatch 31 = .ok (.lload_n 1, 1) := by decide +kernel
theorem dX2_layPatch_32 : decode cX2_layPatch 32 = .ok (.ldc2_w 39, 3) := by decide +kernel
theorem dX2_layPatch_35 : decode cX2_layPatch 35 = .ok (.lxor, 1) := by decide +kernel
theorem dX2_layPatch_36 : decode cX2_layPatch 36 = .ok (.land, 1) := by decide +kernel
theorem dX2_layPatch_37 : decode cX2_layPatch 37 = .ok (.putfield 35, 3) := by decide +kernel
theorem dX2_layPatch_40 : decode cX2_layPatch 40 = .ok (.iinc 4 1, 3) := by decide +kernel
theorem dX2_layPatch_43 : decode cX2_layPatch 43 = .ok (.goto (-40), 3) := by decide +kernel
theorem dX2_layPatch_46 : decode cX2_layPatch 46 = .ok (.aload_n 0, 1) := by decide +kernel
theorem dX2_layPatch_47 : decode cX2_layPatch 47 = .ok (.lload_n 1, 1) := by decide +kernel
theorem dX2_layPatch_48 : decode cX2_layPatch 48 = .ok (.iconst (-1), 1) := by decide +kernel
theorem dX2_layPatch_49 : decode cX2_layPatch 49 = .ok (.iconst 0, 1) := by decide +kernel
theorem dX2_layPatch_50 : decode cX2_layPatch 50 = .ok (.invokevirtual 41, 3) := by decide +kernel
theorem dX2_layPatch_53 : decode cX2_layPatch 53 = .ok (.aload_n 0, 1) := by decide +kernel
theorem dX2_layPatch_54 : decode cX2_layPatch 54 = .ok (.getfield 12, 3) := by decide +kernel
theorem dX2_layPatch_57 : decode cX2_layPatch 57 = .ok (.new 33, 3) := by decide +kernel
theorem dX2_layPatch_60 : decode cX2_layPatch 60 = .ok (.dup, 1) := by decide +kernel
theorem dX2_layPatch_61 : decode cX2_layPatch 61 = .ok (.iload_n 3, 1) := by decide +kernel
theorem dX2_layPatch_62 : decode cX2_layPatch 62 = .ok (.lload_n 1, 1) := by decide +kernel
theorem dX2_layPatch_63 : decode cX2_layPatch 63 = .ok (.invokespecial 45, 3) := by decide +kernel
theorem dX2_layPatch_66 : decode cX2_layPatch 66 = .ok (.invokevirtual 48, 3) := by decide +kernel
theorem dX2_layPatch_69 : decode cX2_layPatch 69 = .ok (.pop, 1) := by decide +kernel
theorem dX2_layPatch_70 : decode cX2_layPatch 70 = .ok (.return_, 1) := by decide +kernel
theorem dX2_setColour_0 : decode cX2_setColour 0 = .ok (.iconst 0, 1) := by decide +kernel
theorem dX2_setColour_1 : decode cX2_setColour 1 = .ok (.istore 5, 2) := by decide +kernel
theorem dX2_setColour_3 : decode cX2_setColour 3 = .ok (.iload 5, 2) := by decide +kernel
theorem dX2_setColour_5 : decode cX2_setColour 5 = .ok (.aload_n 0, 1) := by decide +kernel
theorem dX2_setColour_6 : decode cX2_setColour 6 = .ok (.getfield 22, 3) := by decide +kernel
theorem dX2_setColour_9 : decode cX2_setColour 9 = .ok (.arraylength, 1) := by decide +kernel
theorem dX2_setColour_10 : decode cX2_setColour 10 = .ok (.if_icmp .ge 26, 3) := by decide +kernel
theorem dX2_setColour_13 : decode cX2_setColour 13 = .ok (.lload_n 1, 1) := by decide +kernel
theorem dX2_setColour_14 : decode cX2_setColour 14 = .ok (.iload 5, 2) := by decide +kernel
theorem dX2_setColour_16 : decode cX2_setColour 16 = .ok (.invokestatic 52, 3) := by decide +kernel
theorem dX2_setColour_19 : decode cX2_setColour 19 = .ok (.ifCond .eq 11, 3) := by decide +kernel
theorem dX2_setColour_22 : decode cX2_setColour 22 = .ok (.aload_n 0, 1) := by decide +kernel
theorem dX2_setColour_23 : decode cX2_setColour 23 = .ok (.getfield 22, 3) := by decide +kernel
theorem dX2_setColour_26 : decode cX2_setColour 26 = .ok (.iload 5, 2) := by decide +kernel
theorem dX2_setColour_28 : decode cX2_setColour 28 = .ok (.iload_n 3, 1) := by decide +kernel
theorem dX2_setColour_29 : decode cX2_setColour 29 = .ok (.iastore, 1) := by decide +kernel
theorem dX2_setColour_30 : decode cX2_setColour 30 = .ok (.iinc 5 1, 3) := by decide +kernel
theorem dX2_setColour_33 : decode cX2_setColour 33 = .ok (.goto (-30), 3) := by decide +kernel
theorem dX2_setColour_36 : decode cX2_setColour 36 = .ok (.aload_n 0, 1) := by decide +kernel
theorem dX2_setColour_37 : decode cX2_setColour 37 = .ok (.iload 4, 2) := by decide +kernel
theorem dX2_setColour_39 : decode cX2_setColour 39 = .ok (.ifCond .eq 12, 3) := by decide +kernel
theorem dX2_setColour_42 : decode cX2_setColour 42 = .ok (.aload_n 0, 1) := by decide +kernel
theorem dX2_setColour_43 : decode cX2_setColour 43 = .ok (.getfield 56, 3) := by decide +kernel
theorem dX2_setColour_46 : decode cX2_setColour 46 = .ok (.lload_n 1, 1) := by decide +kernel
theorem dX2_setColour_47 : decode cX2_setColour 47 = .ok (.lor, 1) := by decide +kernel
theorem dX2_setColour_48 : decode cX2_setColour 48 = .ok (.goto 13, 3) := by decide +kernel
theorem dX2_setColour_51 : decode cX2_setColour 51 = .ok (.aload_n 0, 1) := by decide +kernel
theorem dX2_setColour_52 : decode cX2_setColour 52 = .ok (.getfield 56, 3) := by decide +kernel
theorem dX2_setColour_55 : decode cX2_setColour 55 = .ok (.lload_n 1, 1) := by decide +kernel
theorem dX2_setColour_56 : decode cX2_setColour 56 = .ok (.ldc2_w 39, 3) := by decide +kernel
theorem dX2_setColour_59 : decode cX2_setColour 59 = .ok (.lxor, 1) := by decide +kernel
theorem dX2_setColour_60 : decode cX2_setColour 60 = .ok (.land, 1) := by decide +kernel
theorem dX2_setColour_61 : decode cX2_setColour 61 = .ok (.putfield 56, 3) := by decide +kernel
theorem dX2_setColour_64 : decode cX2_setColour 64 = .ok (.return_, 1) := by decide +kernel
theorem dX2_patchWith_0 : decode cX2_patchWith 0 = .ok (.iconst 0, 1) := by decide +kernel
theorem dX2_patchWith_1 : decode cX2_patchWith 1 = .ok (.istore_n 2, 1) := by decide +kernel
theorem dX2_patchWith_2 : decode cX2_patchWith 2 = .ok (.iload_n 2, 1) := by decide +kernel
theorem dX2_patchWith_3 : decode cX2_patchWith 3 = .ok (.aload_n 0, 1) := by decide +kernel
theorem dX2_patchWith_4 : decode cX2_patchWith 4 = .ok (.getfield 12, 3) := by decide +kernel
theorem dX2_patchWith_7 : decode cX2_patchWith 7 = .ok (.invokevirtual 25, 3) := by decide +kernel
theorem dX2_patchWith_10 : decode cX2_patchWith 10 = .ok (.if_icmp .ge 32, 3) := by decide +kernel
theorem dX2_patchWith_13 : decode cX2_patchWith 13 = .ok (.aload_n 0, 1) := by decide +kernel
theorem dX2_patchWith_14 : decode cX2_patchWith 14 = .ok (.getfield 12, 3) := by decide +kernel
theorem dX2_patchWith_17 : decode cX2_patchWith 17 = .ok (.iload_n 2, 1) := by decide +kernel
theorem dX2_patchWith_18 : decode cX2_patchWith 18 = .ok (.invokevirtual 29, 3) := by decide +kernel
theorem dX2_patchWith_21 : decode cX2_patchWith 21 = .ok (.checkcast 33, 3) := by decide +kernel
theorem dX2_patchWith_24 : decode cX2_patchWith 24 = .ok (.getfield 35, 3) := by decide +kernel
theorem dX2_patchWith_27 : decode cX2_patchWith 27 = .ok (.iload_n 1, 1) := by decide +kernel
theorem dX2_patchWith_28 : decode cX2_patchWith 28 = .ok (.invokestatic 52, 3) := by decide +kernel
theorem dX2_patchWith_31 : decode cX2_patchWith 31 = .ok (.ifCond .eq 5, 3) := by decide +kernel
theorem dX2_patchWith_34 : decode cX2_patchWith 34 = .ok (.iload_n 2, 1) := by decide +kernel
theorem dX2_patchWith_35 : decode cX2_patchWith 35 = .ok (.ireturn, 1) := by decide +kernel
theorem dX2_patchWith_36 : decode cX2_patchWith 36 = .ok (.iinc 2 1, 3) := by decide +kernel
theorem dX2_patchWith_39 : decode cX2_patchWith 39 = .ok (.goto (-37), 3) := by decide +kernel
theorem dX2_patchWith_42 : decode cX2_patchWith 42 = .ok (.iconst (-1), 1) := by decide +kernel
theorem dX2_patchWith_43 : decode cX2_patchWith 43 = .ok (.ireturn, 1) := by decide +kernel
theorem dX2_pigmentOn_0 : decode cX2_pigmentOn 0 = .ok (.iload_n 1, 1) := by decide +kernel
theorem dX2_pigmentOn_1 : decode cX2_pigmentOn 1 = .ok (.ifCond .lt 12, 3) := by decide +kernel
theorem dX2_pigmentOn_4 : decode cX2_pigmentOn 4 = .ok (.iload_n 1, 1) := by decide +kernel
theorem dX2_pigmentOn_5 : decode cX2_pigmentOn 5 = .ok (.aload_n 0, 1) := by decide +kernel
theorem dX2_pigmentOn_6 : decode cX2_pigmentOn 6 = .ok (.getfield 22, 3) := by decide +kernel
theorem dX2_pigmentOn_9 : decode cX2_pigmentOn 9 = .ok (.arraylength, 1) := by decide +kernel
theorem dX2_pigmentOn_10 : decode cX2_pigmentOn 10 = .ok (.if_icmp .lt 7, 3) := by decide +kernel
theorem dX2_pigmentOn_13 : decode cX2_pigmentOn 13 = .ok (.iconst (-1), 1) := by decide +kernel
theorem dX2_pigmentOn_14 : decode cX2_pigmentOn 14 = .ok (.goto 9, 3) := by decide +kernel
theorem dX2_pigmentOn_17 : decode cX2_pigmentOn 17 = .ok (.aload_n 0, 1) := by decide +kernel
theorem dX2_pigmentOn_18 : decode cX2_pigmentOn 18 = .ok (.getfield 22, 3) := by decide +kernel
theorem dX2_pigmentOn_21 : decode cX2_pigmentOn 21 = .ok (.iload_n 1, 1) := by decide +kernel
theorem dX2_pigmentOn_22 : decode cX2_pigmentOn 22 = .ok (.iaload, 1) := by decide +kernel
theorem dX2_pigmentOn_23 : decode cX2_pigmentOn 23 = .ok (.ireturn, 1) := by decide +kernel
theorem dX2_isSecco_0 : decode cX2_isSecco 0 = .ok (.aload_n 0, 1) := by decide +kernel
theorem dX2_isSecco_1 : decode cX2_isSecco 1 = .ok (.getfield 56, 3) := by decide +kernel
theorem dX2_isSecco_4 : decode cX2_isSecco 4 = .ok (.iload_n 1, 1) := by decide +kernel
theorem dX2_isSecco_5 : decode cX2_isSecco 5 = .ok (.invokestatic 52, 3) := by decide +kernel
theorem dX2_isSecco_8 : decode cX2_isSecco 8 = .ok (.ireturn, 1) := by decide +kernel
theorem dX2_countMetBefore_0 : decode cX2_countMetBefore 0 = .ok (.iconst 0, 1) := by decide +kernel
theorem dX2_countMetBefore_1 : decode cX2_countMetBefore 1 = .ok (.istore 4, 2) := by decide +kernel
theorem dX2_countMetBefore_3 : decode cX2_countMetBefore 3 = .ok (.iconst 0, 1) := by decide +kernel
theorem dX2_countMetBefore_4 : decode cX2_countMetBefore 4 = .ok (.istore 5, 2) := by decide +kernel
theorem dX2_countMetBefore_6 : decode cX2_countMetBefore 6 = .ok (.iload 5, 2) := by decide +kernel
theorem dX2_countMetBefore_8 : decode cX2_countMetBefore 8 = .ok (.iload_n 1, 1) := by decide +kernel
theorem dX2_countMetBefore_9 : decode cX2_countMetBefore 9 = .ok (.if_icmp .ge 46, 3) := by decide +kernel
theorem dX2_countMetBefore_12 : decode cX2_countMetBefore 12 = .ok (.iload 5, 2) := by decide +kernel
theorem dX2_countMetBefore_14 : decode cX2_countMetBefore 14 = .ok (.aload_n 0, 1) := by decide +kernel
theorem dX2_countMetBefore_15 : decode cX2_countMetBefore 15 = .ok (.getfield 12, 3) := by decide +kernel
theorem dX2_countMetBefore_18 : decode cX2_countMetBefore 18 = .ok (.invokevirtual 25, 3) := by decide +kernel
theorem dX2_countMetBefore_21 : decode cX2_countMetBefore 21 = .ok (.if_icmp .ge 34, 3) := by decide +kernel
theorem dX2_countMetBefore_24 : decode cX2_countMetBefore 24 = .ok (.aload_n 0, 1) := by decide +kernel
theorem dX2_countMetBefore_25 : decode cX2_countMetBefore 25 = .ok (.getfield 12, 3) := by decide +kernel
theorem dX2_countMetBefore_28 : decode cX2_countMetBefore 28 = .ok (.iload 5, 2) := by decide +kernel
theorem dX2_countMetBefore_30 : decode cX2_countMetBefore 30 = .ok (.invokevirtual 29, 3) := by decide +kernel
theorem dX2_countMetBefore_33 : decode cX2_countMetBefore 33 = .ok (.checkcast 33, 3) := by decide +kernel
theorem dX2_countMetBefore_36 : decode cX2_countMetBefore 36 = .ok (.getfield 35, 3) := by decide +kernel
theorem dX2_countMetBefore_39 : decode cX2_countMetBefore 39 = .ok (.lload_n 2, 1) := by decide +kernel
theorem dX2_countMetBefore_40 : decode cX2_countMetBefore 40 = .ok (.land, 1) := by decide +kernel
theorem dX2_countMetBefore_41 : decode cX2_countMetBefore 41 = .ok (.lconst 0, 1) := by decide +kernel
theorem dX2_countMetBefore_42 : decode cX2_countMetBefore 42 = .ok (.lcmp, 1) := by decide +kernel
theorem dX2_countMetBefore_43 : decode cX2_countMetBefore 43 = .ok (.ifCond .eq 6, 3) := by decide +kernel
theorem dX2_countMetBefore_46 : decode cX2_countMetBefore 46 = .ok (.iinc 4 1, 3) := by decide +kernel
theorem dX2_countMetBefore_49 : decode cX2_countMetBefore 49 = .ok (.iinc 5 1, 3) := by decide +kernel
theorem dX2_countMetBefore_52 : decode cX2_countMetBefore 52 = .ok (.goto (-46), 3) := by decide +kernel
theorem dX2_countMetBefore_55 : decode cX2_countMetBefore 55 = .ok (.iload 4, 2) := by decide +kernel
theorem dX2_countMetBefore_57 : decode cX2_countMetBefore 57 = .ok (.ireturn, 1) := by decide +kernel
theorem dX4_init_0 : decode cX4_init 0 = .ok (.aload_n 0, 1) := by decide +kernel
theorem dX4_init_1 : decode cX4_init 1 = .ok (.invokespecial 3, 3) := by decide +kernel
theorem dX4_init_4 : decode cX4_init 4 = .ok (.aload_n 0, 1) := by decide +kernel
theorem dX4_init_5 : decode cX4_init 5 = .ok (.new 9, 3) := by decide +kernel
theorem dX4_init_8 : decode cX4_init 8 = .ok (.dup, 1) := by decide +kernel
theorem dX4_init_9 : decode cX4_init 9 = .ok (.invokespecial 11, 3) := by decide +kernel
theorem dX4_init_12 : decode cX4_init 12 = .ok (.putfield 12, 3) := by decide +kernel
theorem dX4_init_15 : decode cX4_init 15 = .ok (.return_, 1) := by decide +kernel
theorem dX4_isFull_0 : decode cX4_isFull 0 = .ok (.aload_n 0, 1) := by decide +kernel
theorem dX4_isFull_1 : decode cX4_isFull 1 = .ok (.getfield 12, 3) := by decide +kernel
theorem dX4_isFull_4 : decode cX4_isFull 4 = .ok (.invokevirtual 18, 3) := by decide +kernel
theorem dX4_isFull_7 : decode cX4_isFull 7 = .ok (.sipush 512, 3) := by decide +kernel
theorem dX4_isFull_10 : decode cX4_isFull 10 = .ok (.if_icmp .lt 7, 3) := by decide +kernel
theorem dX4_isFull_13 : decode cX4_isFull 13 = .ok (.iconst 1, 1) := by decide +kernel
theorem dX4_isFull_14 : decode cX4_isFull 14 = .ok (.goto 4, 3) := by decide +kernel
theorem dX4_isFull_17 : decode cX4_isFull 17 = .ok (.iconst 0, 1) := by decide +kernel
theorem dX4_isFull_18 : decode cX4_isFull 18 = .ok (.ireturn, 1) := by decide +kernel
theorem dX4_note_0 : decode cX4_note 0 = .ok (.aload_n 0, 1) := by decide +kernel
theorem dX4_note_1 : decode cX4_note 1 = .ok (.getfield 12, 3) := by decide +kernel
theorem dX4_note_4 : decode cX4_note 4 = .ok (.new 22, 3) := by decide +kernel
theorem dX4_note_7 : decode cX4_note 7 = .ok (.dup, 1) := by decide +kernel
theorem dX4_note_8 : decode cX4_note 8 = .ok (.iload_n 1, 1) := by decide +kernel
theorem dX4_note_9 : decode cX4_note 9 = .ok (.iload_n 2, 1) := by decide +kernel
theorem dX4_note_10 : decode cX4_note 10 = .ok (.iload_n 3, 1) := by decide +kernel
theorem dX4_note_11 : decode cX4_note 11 = .ok (.iload 4, 2) := by decide +kernel
theorem dX4_note_13 : decode cX4_note 13 = .ok (.invokespecial 24, 3) := by decide +kernel
theorem dX4_note_16 : decode cX4_note 16 = .ok (.invokevirtual 27, 3) := by decide +kernel
theorem dX4_note_19 : decode cX4_note 19 = .ok (.pop, 1) := by decide +kernel
theorem dX4_note_20 : decode cX4_note 20 = .ok (.return_, 1) := by decide +kernel
theorem dX4_countCoats_0 : decode cX4_countCoats 0 = .ok (.iconst 0, 1) := by decide +kernel
theorem dX4_countCoats_1 : decode cX4_countCoats 1 = .ok (.istore_n 3, 1) := by decide +kernel
theorem dX4_countCoats_2 : decode cX4_countCoats 2 = .ok (.iconst 0, 1) := by decide +kernel
theorem dX4_countCoats_3 : decode cX4_countCoats 3 = .ok (.istore 4, 2) := by decide +kernel
theorem dX4_countCoats_5 : decode cX4_countCoats 5 = .ok (.iload 4, 2) := by decide +kernel
theorem dX4_countCoats_7 : decode cX4_countCoats 7 = .ok (.aload_n 0, 1) := by decide +kernel
theorem dX4_countCoats_8 : decode cX4_countCoats 8 = .ok (.getfield 12, 3) := by decide +kernel
theorem dX4_countCoats_11 : decode cX4_countCoats 11 = .ok (.invokevirtual 18, 3) := by decide +kernel
theorem dX4_countCoats_14 : decode cX4_countCoats 14 = .ok (.if_icmp .ge 41, 3) := by decide +kernel
theorem dX4_countCoats_17 : decode cX4_countCoats 17 = .ok (.aload_n 0, 1) := by decide +kernel
theorem dX4_countCoats_18 : decode cX4_countCoats 18 = .ok (.getfield 12, 3) := by decide +kernel
theorem dX4_countCoats_21 : decode cX4_countCoats 21 = .ok (.iload 4, 2) := by decide +kernel
theorem dX4_countCoats_23 : decode cX4_countCoats 23 = .ok (.invokevirtual 31, 3) := by decide +kernel
theorem dX4_countCoats_26 : decode cX4_countCoats 26 = .ok (.checkcast 22, 3) := by decide +kernel
theorem dX4_countCoats_29 : decode cX4_countCoats 29 = .ok (.astore 5, 2) := by decide +kernel
theorem dX4_countCoats_31 : decode cX4_countCoats 31 = .ok (.aload 5, 2) := by decide +kernel
theorem dX4_countCoats_33 : decode cX4_countCoats 33 = .ok (.iload_n 1, 1) := by decide +kernel
theorem dX4_countCoats_34 : decode cX4_countCoats 34 = .ok (.iload_n 2, 1) := by decide +kernel
theorem dX4_countCoats_35 : decode cX4_countCoats 35 = .ok (.invokevirtual 35, 3) := by decide +kernel
theorem dX4_countCoats_38 : decode cX4_countCoats 38 = .ok (.ifCond .eq 11, 3) := by decide +kernel
theorem dX4_countCoats_41 : decode cX4_countCoats 41 = .ok (.iload_n 3, 1) := by decide +kernel
theorem dX4_countCoats_42 : decode cX4_countCoats 42 = .ok (.aload 5, 2) := by decide +kernel
theorem dX4_countCoats_44 : decode cX4_countCoats 44 = .ok (.getfield 39, 3) := by decide +kernel
theorem dX4_countCoats_47 : decode cX4_countCoats 47 = .ok (.iadd, 1) := by decide +kernel
theorem dX4_countCoats_48 : decode cX4_countCoats 48 = .ok (.istore_n 3, 1) := by decide +kernel
theorem dX4_countCoats_49 : decode cX4_countCoats 49 = .ok (.iinc 4 1, 3) := by decide +kernel
theorem dX4_countCoats_52 : decode cX4_countCoats 52 = .ok (.goto (-47), 3) := by decide +kernel
theorem dX4_countCoats_55 : decode cX4_countCoats 55 = .ok (.iload_n 3, 1) := by decide +kernel
theorem dX4_countCoats_56 : decode cX4_countCoats 56 = .ok (.ireturn, 1) := by decide +kernel
theorem dX5_init_0 : decode cX5_init 0 = .ok (.aload_n 0, 1) := by decide +kernel
theorem dX5_init_1 : decode cX5_init 1 = .ok (.invokespecial 1, 3) := by decide +kernel
theorem dX5_init_4 : decode cX5_init 4 = .ok (.aload_n 0, 1) := by decide +kernel
theorem dX5_init_5 : decode cX5_init 5 = .ok (.iload_n 1, 1) := by decide +kernel
theorem dX5_init_6 : decode cX5_init 6 = .ok (.putfield 7, 3) := by decide +kernel
theorem dX5_init_9 : decode cX5_init 9 = .ok (.aload_n 0, 1) := by decide +kernel
theorem dX5_init_10 : decode cX5_init 10 = .ok (.lload_n 2, 1) := by decide +kernel
theorem dX5_init_11 : decode cX5_init 11 = .ok (.putfield 13, 3) := by decide +kernel
theorem dX5_init_14 : decode cX5_init 14 = .ok (.return_, 1) := by decide +kernel
theorem dX7_init_0 : decode cX7_init 0 = .ok (.aload_n 0, 1) := by decide +kernel
theorem dX7_init_1 : decode cX7_init 1 = .ok (.invokespecial 3, 3) := by decide +kernel
theorem dX7_init_4 : decode cX7_init 4 = .ok (.aload_n 0, 1) := by decide +kernel
theorem dX7_init_5 : decode cX7_init 5 = .ok (.bipush 8, 2) := by decide +kernel
theorem dX7_init_7 : decode cX7_init 7 = .ok (.newarray .int, 2) := by decide +kernel
theorem dX7_init_9 : decode cX7_init 9 = .ok (.putfield 9, 3) := by decide +kernel
theorem dX7_init_12 : decode cX7_init 12 = .ok (.aload_n 0, 1) := by decide +kernel
theorem dX7_init_13 : decode cX7_init 13 = .ok (.getfield 9, 3) := by decide +kernel
theorem dX7_init_16 : decode cX7_init 16 = .ok (.iconst 0, 1) := by decide +kernel
theorem dX7_init_17 : decode cX7_init 17 = .ok (.iload_n 1, 1) := by decide +kernel
theorem dX7_init_18 : decode cX7_init 18 = .ok (.iastore, 1) := by decide +kernel
theorem dX7_init_19 : decode cX7_init 19 = .ok (.aload_n 0, 1) := by decide +kernel
theorem dX7_init_20 : decode cX7_init 20 = .ok (.iconst 1, 1) := by decide +kernel
theorem dX7_init_21 : decode cX7_init 21 = .ok (.putfield 15, 3) := by decide +kernel
theorem dX7_init_24 : decode cX7_init 24 = .ok (.return_, 1) := by decide +kernel
theorem dX7_countDepths_0 : decode cX7_countDepths 0 = .ok (.aload_n 0, 1) := by decide +kernel
theorem dX7_countDepths_1 : decode cX7_countDepths 1 = .ok (.getfield 15, 3) := by decide +kernel
theorem dX7_countDepths_4 : decode cX7_countDepths 4 = .ok (.ireturn, 1) := by decide +kernel
theorem dX7_isFull_0 : decode cX7_isFull 0 = .ok (.aload_n 0, 1) := by decide +kernel
theorem dX7_isFull_1 : decode cX7_isFull 1 = .ok (.getfield 15, 3) := by decide +kernel
theorem dX7_isFull_4 : decode cX7_isFull 4 = .ok (.aload_n 0, 1) := by decide +kernel
theorem dX7_isFull_5 : decode cX7_isFull 5 = .ok (.getfield 9, 3) := by decide +kernel
theorem dX7_isFull_8 : decode cX7_isFull 8 = .ok (.arraylength, 1) := by decide +kernel
theorem dX7_isFull_9 : decode cX7_isFull 9 = .ok (.if_icmp .lt 7, 3) := by decide +kernel
theorem dX7_isFull_12 : decode cX7_isFull 12 = .ok (.iconst 1, 1) := by decide +kernel
theorem dX7_isFull_13 : decode cX7_isFull 13 = .ok (.goto 4, 3) := by decide +kernel
theorem dX7_isFull_16 : decode cX7_isFull 16 = .ok (.iconst 0, 1) := by decide +kernel
theorem dX7_isFull_17 : decode cX7_isFull 17 = .ok (.ireturn, 1) := by decide +kernel
theorem dX7_append_0 : decode cX7_append 0 = .ok (.aload_n 0, 1) := by decide +kernel
theorem dX7_append_1 : decode cX7_append 1 = .ok (.getfield 15, 3) := by decide +kernel
theorem dX7_append_4 : decode cX7_append 4 = .ok (.aload_n 0, 1) := by decide +kernel
theorem dX7_append_5 : decode cX7_append 5 = .ok (.getfield 9, 3) := by decide +kernel
theorem dX7_append_8 : decode cX7_append 8 = .ok (.arraylength, 1) := by decide +kernel
theorem dX7_append_9 : decode cX7_append 9 = .ok (.if_icmp .ge 23, 3) := by decide +kernel
theorem dX7_append_12 : decode cX7_append 12 = .ok (.aload_n 0, 1) := by decide +kernel
theorem dX7_append_13 : decode cX7_append 13 = .ok (.getfield 9, 3) := by decide +kernel
theorem dX7_append_16 : decode cX7_append 16 = .ok (.aload_n 0, 1) := by decide +kernel
theorem dX7_append_17 : decode cX7_append 17 = .ok (.getfield 15, 3) := by decide +kernel
theorem dX7_append_20 : decode cX7_append 20 = .ok (.iload_n 1, 1) := by decide +kernel
theorem dX7_append_21 : decode cX7_append 21 = .ok (.iastore, 1) := by decide +kernel
theorem dX7_append_22 : decode cX7_append 22 = .ok (.aload_n 0, 1) := by decide +kernel
theorem dX7_append_23 : decode cX7_append 23 = .ok (.dup, 1) := by decide +kernel
theorem dX7_append_24 : decode cX7_append 24 = .ok (.getfield 15, 3) := by decide +kernel
theorem dX7_append_27 : decode cX7_append 27 = .ok (.iconst 1, 1) := by decide +kernel
theorem dX7_append_28 : decode cX7_append 28 = .ok (.iadd, 1) := by decide +kernel
theorem dX7_append_29 : decode cX7_append 29 = .ok (.putfield 15, 3) := by decide +kernel
theorem dX7_append_32 : decode cX7_append 32 = .ok (.return_, 1) := by decide +kernel
theorem dX7_depthAt_0 : decode cX7_depthAt 0 = .ok (.iload_n 1, 1) := by decide +kernel
theorem dX7_depthAt_1 : decode cX7_depthAt 1 = .ok (.aload_n 0, 1) := by decide +kernel
theorem dX7_depthAt_2 : decode cX7_depthAt 2 = .ok (.getfield 15, 3) := by decide +kernel
theorem dX7_depthAt_5 : decode cX7_depthAt 5 = .ok (.iconst 1, 1) := by decide +kernel
theorem dX7_depthAt_6 : decode cX7_depthAt 6 = .ok (.isub, 1) := by decide +kernel
theorem dX7_depthAt_7 : decode cX7_depthAt 7 = .ok (.invokestatic 19, 3) := by decide +kernel
theorem dX7_depthAt_10 : decode cX7_depthAt 10 = .ok (.istore_n 2, 1) := by decide +kernel
theorem dX7_depthAt_11 : decode cX7_depthAt 11 = .ok (.iload_n 2, 1) := by decide +kernel
theorem dX7_depthAt_12 : decode cX7_depthAt 12 = .ok (.ifCond .lt 12, 3) := by decide +kernel
theorem dX7_depthAt_15 : decode cX7_depthAt 15 = .ok (.iload_n 2, 1) := by decide +kernel
theorem dX7_depthAt_16 : decode cX7_depthAt 16 = .ok (.aload_n 0, 1) := by decide +kernel
theorem dX7_depthAt_17 : decode cX7_depthAt 17 = .ok (.getfield 9, 3) := by decide +kernel
theorem dX7_depthAt_20 : decode cX7_depthAt 20 = .ok (.arraylength, 1) := by decide +kernel
theorem dX7_depthAt_21 : decode cX7_depthAt 21 = .ok (.if_icmp .lt 7, 3) := by decide +kernel
theorem dX7_depthAt_24 : decode cX7_depthAt 24 = .ok (.iconst 0, 1) := by decide +kernel
theorem dX7_depthAt_25 : decode cX7_depthAt 25 = .ok (.goto 9, 3) := by decide +kernel
theorem dX7_depthAt_28 : decode cX7_depthAt 28 = .ok (.aload_n 0, 1) := by decide +kernel
theorem dX7_depthAt_29 : decode cX7_depthAt 29 = .ok (.getfield 9, 3) := by decide +kernel
theorem dX7_depthAt_32 : decode cX7_depthAt 32 = .ok (.iload_n 2, 1) := by decide +kernel
theorem dX7_depthAt_33 : decode cX7_depthAt 33 = .ok (.iaload, 1) := by decide +kernel
theorem dX7_depthAt_34 : decode cX7_depthAt 34 = .ok (.ireturn, 1) := by decide +kernel
theorem dX8_init_0 : decode cX8_init 0 = .ok (.aload_n 0, 1) := by decide +kernel
theorem dX8_init_1 : decode cX8_init 1 = .ok (.invokespecial 3, 3) := by decide +kernel
theorem dX8_init_4 : decode cX8_init 4 = .ok (.aload_n 0, 1) := by decide +kernel
theorem dX8_init_5 : decode cX8_init 5 = .ok (.aload_n 1, 1) := by decide +kernel
theorem dX8_init_6 : decode cX8_init 6 = .ok (.putfield 9, 3) := by decide +kernel
theorem dX8_init_9 : decode cX8_init 9 = .ok (.aload_n 0, 1) := by decide +kernel
theorem dX8_init_10 : decode cX8_init 10 = .ok (.new 15, 3) := by decide +kernel
theorem dX8_init_13 : decode cX8_init 13 = .ok (.dup, 1) := by decide +kernel
theorem dX8_init_14 : decode cX8_init 14 = .ok (.invokespecial 17, 3) := by decide +kernel
theorem dX8_init_17 : decode cX8_init 17 = .ok (.putfield 18, 3) := by decide +kernel
theorem dX8_init_20 : decode cX8_init 20 = .ok (.return_, 1) := by decide +kernel
theorem dX8_countCoats_0 : decode cX8_countCoats 0 = .ok (.aload_n 0, 1) := by decide +kernel
theorem dX8_countCoats_1 : decode cX8_countCoats 1 = .ok (.getfield 18, 3) := by decide +kernel
theorem dX8_countCoats_4 : decode cX8_countCoats 4 = .ok (.invokevirtual 22, 3) := by decide +kernel
theorem dX8_countCoats_7 : decode cX8_countCoats 7 = .ok (.ireturn, 1) := by decide +kernel
theorem dX8_coatAt_0 : decode cX8_coatAt 0 = .ok (.iload_n 1, 1) := by decide +kernel
theorem dX8_coatAt_1 : decode cX8_coatAt 1 = .ok (.ifCond .lt 14, 3) := by decide +kernel
theorem dX8_coatAt_4 : decode cX8_coatAt 4 = .ok (.iload_n 1, 1) := by decide +kernel
theorem dX8_coatAt_5 : decode cX8_coatAt 5 = .ok (.aload_n 0, 1) := by decide +kernel
theorem dX8_coatAt_6 : decode cX8_coatAt 6 = .ok (.getfield 18, 3) := by decide +kernel
theorem dX8_coatAt_9 : decode cX8_coatAt 9 = .ok (.invokevirtual 22, 3) := by decide +kernel
theorem dX8_coatAt_12 : decode cX8_coatAt 12 = .ok (.if_icmp .lt 7, 3) := by decide +kernel
theorem dX8_coatAt_15 : decode cX8_coatAt 15 = .ok (.aconst_null, 1) := by decide +kernel
theorem dX8_coatAt_16 : decode cX8_coatAt 16 = .ok (.goto 14, 3) := by decide +kernel
theorem dX8_coatAt_19 : decode cX8_coatAt 19 = .ok (.aload_n 0, 1) := by decide +kernel
theorem dX8_coatAt_20 : decode cX8_coatAt 20 = .ok (.getfield 18, 3) := by decide +kernel
theorem dX8_coatAt_23 : decode cX8_coatAt 23 = .ok (.iload_n 1, 1) := by decide +kernel
theorem dX8_coatAt_24 : decode cX8_coatAt 24 = .ok (.invokevirtual 26, 3) := by decide +kernel
theorem dX8_coatAt_27 : decode cX8_coatAt 27 = .ok (.checkcast 30, 3) := by decide +kernel
theorem dX8_coatAt_30 : decode cX8_coatAt 30 = .ok (.areturn, 1) := by decide +kernel
theorem dX8_topCoat_0 : decode cX8_topCoat 0 = .ok (.aload_n 0, 1) := by decide +kernel
theorem dX8_topCoat_1 : decode cX8_topCoat 1 = .ok (.aload_n 0, 1) := by decide +kernel
theorem dX8_topCoat_2 : decode cX8_topCoat 2 = .ok (.getfield 18, 3) := by decide +kernel
theorem dX8_topCoat_5 : decode cX8_topCoat 5 = .ok (.invokevirtual 22, 3) := by decide +kernel
theorem dX8_topCoat_8 : decode cX8_topCoat 8 = .ok (.iconst 1, 1) := by decide +kernel
theorem dX8_topCoat_9 : decode cX8_topCoat 9 = .ok (.isub, 1) := by decide +kernel
theorem dX8_topCoat_10 : decode cX8_topCoat 10 = .ok (.invokevirtual 32, 3) := by decide +kernel
theorem dX8_topCoat_13 : decode cX8_topCoat 13 = .ok (.areturn, 1) := by decide +kernel
theorem dX8_takes_0 : decode cX8_takes 0 = .ok (.aload_n 0, 1) := by decide +kernel
theorem dX8_takes_1 : decode cX8_takes 1 = .ok (.getfield 18, 3) := by decide +kernel
theorem dX8_takes_4 : decode cX8_takes 4 = .ok (.invokevirtual 22, 3) := by decide +kernel
theorem dX8_takes_7 : decode cX8_takes 7 = .ok (.bipush 6, 2) := by decide +kernel
theorem dX8_takes_9 : decode cX8_takes 9 = .ok (.if_icmp .lt 5, 3) := by decide +kernel
theorem dX8_takes_12 : decode cX8_takes 12 = .ok (.iconst 0, 1) := by decide +kernel
theorem dX8_takes_13 : decode cX8_takes 13 = .ok (.ireturn, 1) := by decide +kernel
theorem dX8_takes_14 : decode cX8_takes 14 = .ok (.aload_n 0, 1) := by decide +kernel
theorem dX8_takes_15 : decode cX8_takes 15 = .ok (.invokevirtual 36, 3) := by decide +kernel
theorem dX8_takes_18 : decode cX8_takes 18 = .ok (.astore_n 2, 1) := by decide +kernel
theorem dX8_takes_19 : decode cX8_takes 19 = .ok (.aload_n 2, 1) := by decide +kernel
theorem dX8_takes_20 : decode cX8_takes 20 = .ok (.ifnonnull 23, 3) := by decide +kernel
theorem dX8_takes_23 : decode cX8_takes 23 = .ok (.aload_n 0, 1) := by decide +kernel
theorem dX8_takes_24 : decode cX8_takes 24 = .ok (.getfield 9, 3) := by decide +kernel
theorem dX8_takes_27 : decode cX8_takes 27 = .ok (.getfield 40, 3) := by decide +kernel
theorem dX8_takes_30 : decode cX8_takes 30 = .ok (.aload_n 1, 1) := by decide +kernel
theorem dX8_takes_31 : decode cX8_takes 31 = .ok (.getfield 46, 3) := by decide +kernel
theorem dX8_takes_34 : decode cX8_takes 34 = .ok (.if_icmp .lt 7, 3) := by decide +kernel
theorem dX8_takes_37 : decode cX8_takes 37 = .ok (.iconst 1, 1) := by decide +kernel
theorem dX8_takes_38 : decode cX8_takes 38 = .ok (.goto 4, 3) := by decide +kernel
theorem dX8_takes_41 : decode cX8_takes 41 = .ok (.iconst 0, 1) := by decide +kernel
theorem dX8_takes_42 : decode cX8_takes 42 = .ok (.ireturn, 1) := by decide +kernel
theorem dX8_takes_43 : decode cX8_takes 43 = .ok (.aload_n 2, 1) := by decide +kernel
theorem dX8_takes_44 : decode cX8_takes 44 = .ok (.getfield 49, 3) := by decide +kernel
theorem dX8_takes_47 : decode cX8_takes 47 = .ok (.getfield 46, 3) := by decide +kernel
theorem dX8_takes_50 : decode cX8_takes 50 = .ok (.aload_n 1, 1) := by decide +kernel
theorem dX8_takes_51 : decode cX8_takes 51 = .ok (.getfield 46, 3) := by decide +kernel
theorem dX8_takes_54 : decode cX8_takes 54 = .ok (.if_icmp .lt 14, 3) := by decide +kernel
theorem dX8_takes_57 : decode cX8_takes 57 = .ok (.aload_n 2, 1) := by decide +kernel
theorem dX8_takes_58 : decode cX8_takes 58 = .ok (.invokevirtual 53, 3) := by decide +kernel
theorem dX8_takes_61 : decode cX8_takes 61 = .ok (.ifCond .eq 7, 3) := by decide +kernel
theorem dX8_takes_64 : decode cX8_takes 64 = .ok (.iconst 1, 1) := by decide +kernel
theorem dX8_takes_65 : decode cX8_takes 65 = .ok (.goto 4, 3) := by decide +kernel
theorem dX8_takes_68 : decode cX8_takes 68 = .ok (.iconst 0, 1) := by decide +kernel
theorem dX8_takes_69 : decode cX8_takes 69 = .ok (.ireturn, 1) := by decide +kernel
theorem dX8_layCoat_0 : decode cX8_layCoat 0 = .ok (.new 30, 3) := by decide +kernel
theorem dX8_layCoat_3 : decode cX8_layCoat 3 = .ok (.dup, 1) := by decide +kernel
theorem dX8_layCoat_4 : decode cX8_layCoat 4 = .ok (.aload_n 1, 1) := by decide +kernel
theorem dX8_layCoat_5 : decode cX8_layCoat 5 = .ok (.iload_n 2, 1) := by decide +kernel
theorem dX8_layCoat_6 : decode cX8_layCoat 6 = .ok (.iload_n 3, 1) := by decide +kernel
theorem dX8_layCoat_7 : decode cX8_layCoat 7 = .ok (.invokespecial 57, 3) := by decide +kernel
theorem dX8_layCoat_10 : decode cX8_layCoat 10 = .ok (.astore 4, 2) := by decide +kernel
theorem dX8_layCoat_12 : decode cX8_layCoat 12 = .ok (.aload 4, 2) := by decide +kernel
theorem dX8_layCoat_14 : decode cX8_layCoat 14 = .ok (.aload 4, 2) := by decide +kernel
theorem dX8_layCoat_16 : decode cX8_layCoat 16 = .ok (.aload_n 0, 1) := by decide +kernel
theorem dX8_layCoat_17 : decode cX8_layCoat 17 = .ok (.invokevirtual 60, 3) := by decide +kernel
theorem dX8_layCoat_20 : decode cX8_layCoat 20 = .ok (.invokevirtual 63, 3) := by decide +kernel
theorem dX8_layCoat_23 : decode cX8_layCoat 23 = .ok (.ifCond .ne 7, 3) := by decide +kernel
theorem dX8_layCoat_26 : decode cX8_layCoat 26 = .ok (.iconst 1, 1) := by decide +kernel
theorem dX8_layCoat_27 : decode cX8_layCoat 27 = .ok (.goto 4, 3) := by decide +kernel
theorem dX8_layCoat_30 : decode cX8_layCoat 30 = .ok (.iconst 0, 1) := by decide +kernel
theorem dX8_layCoat_31 : decode cX8_layCoat 31 = .ok (.putfield 67, 3) := by decide +kernel
theorem dX8_layCoat_34 : decode cX8_layCoat 34 = .ok (.aload_n 0, 1) := by decide +kernel
theorem dX8_layCoat_35 : decode cX8_layCoat 35 = .ok (.getfield 18, 3) := by decide +kernel
theorem dX8_layCoat_38 : decode cX8_layCoat 38 = .ok (.aload 4, 2) := by decide +kernel
theorem dX8_layCoat_40 : decode cX8_layCoat 40 = .ok (.invokevirtual 71, 3) := by decide +kernel
theorem dX8_layCoat_43 : decode cX8_layCoat 43 = .ok (.pop, 1) := by decide +kernel
theorem dX8_layCoat_44 : decode cX8_layCoat 44 = .ok (.return_, 1) := by decide +kernel
theorem dX8_keysBelow_0 : decode cX8_keysBelow 0 = .ok (.aload_n 0, 1) := by decide +kernel
theorem dX8_keysBelow_1 : decode cX8_keysBelow 1 = .ok (.invokevirtual 36, 3) := by decide +kernel
theorem dX8_keysBelow_4 : decode cX8_keysBelow 4 = .ok (.astore_n 1, 1) := by decide +kernel
theorem dX8_keysBelow_5 : decode cX8_keysBelow 5 = .ok (.aload_n 1, 1) := by decide +kernel
theorem dX8_keysBelow_6 : decode cX8_keysBelow 6 = .ok (.ifnonnull 11, 3) := by decide +kernel
theorem dX8_keysBelow_9 : decode cX8_keysBelow 9 = .ok (.aload_n 0, 1) := by decide +kernel
theorem dX8_keysBelow_10 : decode cX8_keysBelow 10 = .ok (.getfield 9, 3) := by decide +kernel
theorem dX8_keysBelow_13 : decode cX8_keysBelow 13 = .ok (.getfield 75, 3) := by decide +kernel
theorem dX8_keysBelow_16 : decode cX8_keysBelow 16 = .ok (.ireturn, 1) := by decide +kernel
theorem dX8_keysBelow_17 : decode cX8_keysBelow 17 = .ok (.aload_n 1, 1) := by decide +kernel
theorem dX8_keysBelow_18 : decode cX8_keysBelow 18 = .ok (.getfield 78, 3) := by decide +kernel
theorem dX8_keysBelow_21 : decode cX8_keysBelow 21 = .ok (.ifCond .eq 8, 3) := by decide +kernel
theorem dX8_keysBelow_24 : decode cX8_keysBelow 24 = .ok (.bipush 25, 2) := by decide +kernel
theorem dX8_keysBelow_26 : decode cX8_keysBelow 26 = .ok (.goto 5, 3) := by decide +kernel
theorem dX8_keysBelow_29 : decode cX8_keysBelow 29 = .ok (.bipush 10, 2) := by decide +kernel
theorem dX8_keysBelow_31 : decode cX8_keysBelow 31 = .ok (.ireturn, 1) := by decide +kernel
theorem dX8_strikeTop_0 : decode cX8_strikeTop 0 = .ok (.aload_n 0, 1) := by decide +kernel
theorem dX8_strikeTop_1 : decode cX8_strikeTop 1 = .ok (.getfield 18, 3) := by decide +kernel
theorem dX8_strikeTop_4 : decode cX8_strikeTop 4 = .ok (.invokevirtual 22, 3) := by decide +kernel
theorem dX8_strikeTop_7 : decode cX8_strikeTop 7 = .ok (.istore_n 1, 1) := by decide +kernel
theorem dX8_strikeTop_8 : decode cX8_strikeTop 8 = .ok (.iload_n 1, 1) := by decide +kernel
theorem dX8_strikeTop_9 : decode cX8_strikeTop 9 = .ok (.ifCond .le 14, 3) := by decide +kernel
theorem dX8_strikeTop_12 : decode cX8_strikeTop 12 = .ok (.aload_n 0, 1) := by decide +kernel
theorem dX8_strikeTop_13 : decode cX8_strikeTop 13 = .ok (.getfield 18, 3) := by decide +kernel
theorem dX8_strikeTop_16 : decode cX8_strikeTop 16 = .ok (.iload_n 1, 1) := by decide +kernel
theorem dX8_strikeTop_17 : decode cX8_strikeTop 17 = .ok (.iconst 1, 1) := by decide +kernel
theorem dX8_strikeTop_18 : decode cX8_strikeTop 18 = .ok (.isub, 1) := by decide +kernel
theorem dX8_strikeTop_19 : decode cX8_strikeTop 19 = .ok (.invokevirtual 81, 3) := by decide +kernel
theorem dX8_strikeTop_22 : decode cX8_strikeTop 22 = .ok (.pop, 1) := by decide +kernel
theorem dX8_strikeTop_23 : decode cX8_strikeTop 23 = .ok (.return_, 1) := by decide +kernel
theorem dX8_hasEdgeTo_0 : decode cX8_hasEdgeTo 0 = .ok (.aload_n 0, 1) := by decide +kernel
theorem dX8_hasEdgeTo_1 : decode cX8_hasEdgeTo 1 = .ok (.invokevirtual 36, 3) := by decide +kernel
theorem dX8_hasEdgeTo_4 : decode cX8_hasEdgeTo 4 = .ok (.astore_n 2, 1) := by decide +kernel
theorem dX8_hasEdgeTo_5 : decode cX8_hasEdgeTo 5 = .ok (.aload_n 1, 1) := by decide +kernel
theorem dX8_hasEdgeTo_6 : decode cX8_hasEdgeTo 6 = .ok (.invokevirtual 36, 3) := by decide +kernel
theorem dX8_hasEdgeTo_9 : decode cX8_hasEdgeTo 9 = .ok (.astore_n 3, 1) := by decide +kernel
theorem dX8_hasEdgeTo_10 : decode cX8_hasEdgeTo 10 = .ok (.aload_n 2, 1) := by decide +kernel
theorem dX8_hasEdgeTo_11 : decode cX8_hasEdgeTo 11 = .ok (.ifnull 44, 3) := by decide +kernel
theorem dX8_hasEdgeTo_14 : decode cX8_hasEdgeTo 14 = .ok (.aload_n 3, 1) := by decide +kernel
theorem dX8_hasEdgeTo_15 : decode cX8_hasEdgeTo 15 = .ok (.ifnull 40, 3) := by decide +kernel
theorem dX8_hasEdgeTo_18 : decode cX8_hasEdgeTo 18 = .ok (.aload_n 0, 1) := by decide +kernel
theorem dX8_hasEdgeTo_19 : decode cX8_hasEdgeTo 19 = .ok (.invokevirtual 84, 3) := by decide +kernel
theorem dX8_hasEdgeTo_22 : decode cX8_hasEdgeTo 22 = .ok (.aload_n 1, 1) := by decide +kernel
theorem dX8_hasEdgeTo_23 : decode cX8_hasEdgeTo 23 = .ok (.invokevirtual 84, 3) := by decide +kernel
theorem dX8_hasEdgeTo_26 : decode cX8_hasEdgeTo 26 = .ok (.if_icmp .ne 29, 3) := by decide +kernel
theorem dX8_hasEdgeTo_29 : decode cX8_hasEdgeTo 29 = .ok (.aload_n 3, 1) := by decide +kernel
theorem dX8_hasEdgeTo_30 : decode cX8_hasEdgeTo 30 = .ok (.getfield 87, 3) := by decide +kernel
theorem dX8_hasEdgeTo_33 : decode cX8_hasEdgeTo 33 = .ok (.aload_n 2, 1) := by decide +kernel
theorem dX8_hasEdgeTo_34 : decode cX8_hasEdgeTo 34 = .ok (.getfield 87, 3) := by decide +kernel
theorem dX8_hasEdgeTo_37 : decode cX8_hasEdgeTo 37 = .ok (.if_icmp .ge 18, 3) := by decide +kernel
theorem dX8_hasEdgeTo_40 : decode cX8_hasEdgeTo 40 = .ok (.aload_n 3, 1) := by decide +kernel
theorem dX8_hasEdgeTo_41 : decode cX8_hasEdgeTo 41 = .ok (.getfield 49, 3) := by decide +kernel
theorem dX8_hasEdgeTo_44 : decode cX8_hasEdgeTo 44 = .ok (.aload_n 2, 1) := by decide +kernel
theorem dX8_hasEdgeTo_45 : decode cX8_hasEdgeTo 45 = .ok (.getfield 49, 3) := by decide +kernel
theorem dX8_hasEdgeTo_48 : decode cX8_hasEdgeTo 48 = .ok (.if_acmp .ne 7, 3) := by decide +kernel
theorem dX8_hasEdgeTo_51 : decode cX8_hasEdgeTo 51 = .ok (.iconst 1, 1) := by decide +kernel
theorem dX8_hasEdgeTo_52 : decode cX8_hasEdgeTo 52 = .ok (.goto 4, 3) := by decide +kernel
theorem dX8_hasEdgeTo_55 : decode cX8_hasEdgeTo 55 = .ok (.iconst 0, 1) := by decide +kernel
theorem dX8_hasEdgeTo_56 : decode cX8_hasEdgeTo 56 = .ok (.ireturn, 1) := by decide +kernel
theorem dX8_countPaid_0 : decode cX8_countPaid 0 = .ok (.iload_n 1, 1) := by decide +kernel
theorem dX8_countPaid_1 : decode cX8_countPaid 1 = .ok (.iconst 1, 1) := by decide +kernel
theorem dX8_countPaid_2 : decode cX8_countPaid 2 = .ok (.if_icmp .ne 19, 3) := by decide +kernel
theorem dX8_countPaid_5 : decode cX8_countPaid 5 = .ok (.aload_n 0, 1) := by decide +kernel
theorem dX8_countPaid_6 : decode cX8_countPaid 6 = .ok (.getfield 18, 3) := by decide +kernel
theorem dX8_countPaid_9 : decode cX8_countPaid 9 = .ok (.invokevirtual 90, 3) := by decide +kernel
theorem dX8_countPaid_12 : decode cX8_countPaid 12 = .ok (.ifCond .eq 7, 3) := by decide +kernel
theorem dX8_countPaid_15 : decode cX8_countPaid 15 = .ok (.iconst 0, 1) := by decide +kernel
theorem dX8_countPaid_16 : decode cX8_countPaid 16 = .ok (.goto 4, 3) := by decide +kernel
theorem dX8_countPaid_19 : decode cX8_countPaid 19 = .ok (.iconst 1, 1) := by decide +kernel
theorem dX8_countPaid_20 : decode cX8_countPaid 20 = .ok (.ireturn, 1) := by decide +kernel
theorem dX8_countPaid_21 : decode cX8_countPaid 21 = .ok (.iconst 0, 1) := by decide +kernel
theorem dX8_countPaid_22 : decode cX8_countPaid 22 = .ok (.istore_n 2, 1) := by decide +kernel
theorem dX8_countPaid_23 : decode cX8_countPaid 23 = .ok (.iconst 0, 1) := by decide +kernel
theorem dX8_countPaid_24 : decode cX8_countPaid 24 = .ok (.istore_n 3, 1) := by decide +kernel
theorem dX8_countPaid_25 : decode cX8_countPaid 25 = .ok (.iload_n 3, 1) := by decide +kernel
theorem dX8_countPaid_26 : decode cX8_countPaid 26 = .ok (.aload_n 0, 1) := by decide +kernel
theorem dX8_countPaid_27 : decode cX8_countPaid 27 = .ok (.getfield 18, 3) := by decide +kernel
theorem dX8_countPaid_30 : decode cX8_countPaid 30 = .ok (.invokevirtual 22, 3) := by decide +kernel
theorem dX8_countPaid_33 : decode cX8_countPaid 33 = .ok (.if_icmp .ge 27, 3) := by decide +kernel
theorem dX8_countPaid_36 : decode cX8_countPaid 36 = .ok (.iload_n 2, 1) := by decide +kernel
theorem dX8_countPaid_37 : decode cX8_countPaid 37 = .ok (.aload_n 0, 1) := by decide +kernel
theorem dX8_countPaid_38 : decode cX8_countPaid 38 = .ok (.getfield 18, 3) := by decide +kernel
theorem dX8_countPaid_41 : decode cX8_countPaid 41 = .ok (.iload_n 3, 1) := by decide +kernel
theorem dX8_countPaid_42 : decode cX8_countPaid 42 = .ok (.invokevirtual 26, 3) := by decide +kernel
theorem dX8_countPaid_45 : decode cX8_countPaid 45 = .ok (.checkcast 30, 3) := by decide +kernel
theorem dX8_countPaid_48 : decode cX8_countPaid 48 = .ok (.iload_n 1, 1) := by decide +kernel
theorem dX8_countPaid_49 : decode cX8_countPaid 49 = .ok (.invokevirtual 93, 3) := by decide +kernel
theorem dX8_countPaid_52 : decode cX8_countPaid 52 = .ok (.iadd, 1) := by decide +kernel
theorem dX8_countPaid_53 : decode cX8_countPaid 53 = .ok (.istore_n 2, 1) := by decide +kernel
theorem dX8_countPaid_54 : decode cX8_countPaid 54 = .ok (.iinc 3 1, 3) := by decide +kernel
theorem dX8_countPaid_57 : decode cX8_countPaid 57 = .ok (.goto (-32), 3) := by decide +kernel
theorem dX8_countPaid_60 : decode cX8_countPaid 60 = .ok (.iload_n 2, 1) := by decide +kernel
theorem dX8_countPaid_61 : decode cX8_countPaid 61 = .ok (.ireturn, 1) := by decide +kernel
theorem dX9_init_0 : decode cX9_init 0 = .ok (.aload_n 0, 1) := by decide +kernel
theorem dX9_init_1 : decode cX9_init 1 = .ok (.invokespecial 1, 3) := by decide +kernel
theorem dX9_init_4 : decode cX9_init 4 = .ok (.aload_n 0, 1) := by decide +kernel
theorem dX9_init_5 : decode cX9_init 5 = .ok (.new 7, 3) := by decide +kernel
theorem dX9_init_8 : decode cX9_init 8 = .ok (.dup, 1) := by decide +kernel
theorem dX9_init_9 : decode cX9_init 9 = .ok (.invokespecial 9, 3) := by decide +kernel
theorem dX9_init_12 : decode cX9_init 12 = .ok (.putfield 10, 3) := by decide +kernel
theorem dX9_init_15 : decode cX9_init 15 = .ok (.iconst 0, 1) := by decide +kernel
theorem dX9_init_16 : decode cX9_init 16 = .ok (.istore_n 3, 1) := by decide +kernel
theorem dX9_init_17 : decode cX9_init 17 = .ok (.iload_n 3, 1) := by decide +kernel
theorem dX9_init_18 : decode cX9_init 18 = .ok (.iload_n 1, 1) := by decide +kernel
theorem dX9_init_19 : decode cX9_init 19 = .ok (.if_icmp .ge 25, 3) := by decide +kernel
theorem dX9_init_22 : decode cX9_init 22 = .ok (.aload_n 0, 1) := by decide +kernel
theorem dX9_init_23 : decode cX9_init 23 = .ok (.getfield 10, 3) := by decide +kernel
theorem dX9_init_26 : decode cX9_init 26 = .ok (.new 16, 3) := by decide +kernel
theorem dX9_init_29 : decode cX9_init 29 = .ok (.dup, 1) := by decide +kernel
theorem dX9_init_30 : decode cX9_init 30 = .ok (.aload_n 2, 1) := by decide +kernel
theorem dX9_init_31 : decode cX9_init 31 = .ok (.invokespecial 18, 3) := by decide +kernel
theorem dX9_init_34 : decode cX9_init 34 = .ok (.invokevirtual 21, 3) := by decide +kernel
theorem dX9_init_37 : decode cX9_init 37 = .ok (.pop, 1) := by decide +kernel
theorem dX9_init_38 : decode cX9_init 38 = .ok (.iinc 3 1, 3) := by decide +kernel
theorem dX9_init_41 : decode cX9_init 41 = .ok (.goto (-24), 3) := by decide +kernel
theorem dX9_init_44 : decode cX9_init 44 = .ok (.return_, 1) := by decide +kernel
theorem dX9_countStrips_0 : decode cX9_countStrips 0 = .ok (.aload_n 0, 1) := by decide +kernel
theorem dX9_countStrips_1 : decode cX9_countStrips 1 = .ok (.getfield 10, 3) := by decide +kernel
theorem dX9_countStrips_4 : decode cX9_countStrips 4 = .ok (.invokevirtual 25, 3) := by decide +kernel
theorem dX9_countStrips_7 : decode cX9_countStrips 7 = .ok (.ireturn, 1) := by decide +kernel
theorem dX9_stripAt_0 : decode cX9_stripAt 0 = .ok (.iload_n 1, 1) := by decide +kernel
theorem dX9_stripAt_1 : decode cX9_stripAt 1 = .ok (.ifCond .lt 14, 3) := by decide +kernel
theorem dX9_stripAt_4 : decode cX9_stripAt 4 = .ok (.iload_n 1, 1) := by decide +kernel
theorem dX9_stripAt_5 : decode cX9_stripAt 5 = .ok (.aload_n 0, 1) := by decide +kernel
theorem dX9_stripAt_6 : decode cX9_stripAt 6 = .ok (.getfield 10, 3) := by decide +kernel
theorem dX9_stripAt_9 : decode cX9_stripAt 9 = .ok (.invokevirtual 25, 3) := by decide +kernel
theorem dX9_stripAt_12 : decode cX9_stripAt 12 = .ok (.if_icmp .lt 7, 3) := by decide +kernel
theorem dX9_stripAt_15 : decode cX9_stripAt 15 = .ok (.aconst_null, 1) := by decide +kernel
theorem dX9_stripAt_16 : decode cX9_stripAt 16 = .ok (.goto 14, 3) := by decide +kernel
theorem dX9_stripAt_19 : decode cX9_stripAt 19 = .ok (.aload_n 0, 1) := by decide +kernel
theorem dX9_stripAt_20 : decode cX9_stripAt 20 = .ok (.getfield 10, 3) := by decide +kernel
theorem dX9_stripAt_23 : decode cX9_stripAt 23 = .ok (.iload_n 1, 1) := by decide +kernel
theorem dX9_stripAt_24 : decode cX9_stripAt 24 = .ok (.invokevirtual 29, 3) := by decide +kernel
theorem dX9_stripAt_27 : decode cX9_stripAt 27 = .ok (.checkcast 16, 3) := by decide +kernel
theorem dX9_stripAt_30 : decode cX9_stripAt 30 = .ok (.areturn, 1) := by decide +kernel
theorem dX9_takes_0 : decode cX9_takes 0 = .ok (.iload_n 1, 1) := by decide +kernel
theorem dX9_takes_1 : decode cX9_takes 1 = .ok (.istore 4, 2) := by decide +kernel
theorem dX9_takes_3 : decode cX9_takes 3 = .ok (.iload 4, 2) := by decide +kernel
theorem dX9_takes_5 : decode cX9_takes 5 = .ok (.iload_n 2, 1) := by decide +kernel
theorem dX9_takes_6 : decode cX9_takes 6 = .ok (.if_icmp .gt 45, 3) := by decide +kernel
theorem dX9_takes_9 : decode cX9_takes 9 = .ok (.iload 4, 2) := by decide +kernel
theorem dX9_takes_11 : decode cX9_takes 11 = .ok (.aload_n 0, 1) := by decide +kernel
theorem dX9_takes_12 : decode cX9_takes 12 = .ok (.getfield 10, 3) := by decide +kernel
theorem dX9_takes_15 : decode cX9_takes 15 = .ok (.invokevirtual 25, 3) := by decide +kernel
theorem dX9_takes_18 : decode cX9_takes 18 = .ok (.if_icmp .ge 33, 3) := by decide +kernel
theorem dX9_takes_21 : decode cX9_takes 21 = .ok (.aload_n 0, 1) := by decide +kernel
theorem dX9_takes_22 : decode cX9_takes 22 = .ok (.iload 4, 2) := by decide +kernel
theorem dX9_takes_24 : decode cX9_takes 24 = .ok (.invokevirtual 33, 3) := by decide +kernel
theorem dX9_takes_27 : decode cX9_takes 27 = .ok (.astore 5, 2) := by decide +kernel
theorem dX9_takes_29 : decode cX9_takes 29 = .ok (.aload 5, 2) := by decide +kernel
theorem dX9_takes_31 : decode cX9_takes 31 = .ok (.ifnull 12, 3) := by decide +kernel
theorem dX9_takes_34 : decode cX9_takes 34 = .ok (.aload 5, 2) := by decide +kernel
theorem dX9_takes_36 : decode cX9_takes 36 = .ok (.aload_n 3, 1) := by decide +kernel
theorem dX9_takes_37 : decode cX9_takes 37 = .ok (.invokevirtual 37, 3) := by decide +kernel
theorem dX9_takes_40 : decode cX9_takes 40 = .ok (.ifCond .ne 5, 3) := by decide +kernel
theorem dX9_takes_43 : decode cX9_takes 43 = .ok (.iconst 0, 1) := by decide +kernel
theorem dX9_takes_44 : decode cX9_takes 44 = .ok (.ireturn, 1) := by decide +kernel
theorem dX9_takes_45 : decode cX9_takes 45 = .ok (.iinc 4 1, 3) := by decide +kernel
theorem dX9_takes_48 : decode cX9_takes 48 = .ok (.goto (-45), 3) := by decide +kernel
theorem dX9_takes_51 : decode cX9_takes 51 = .ok (.iconst 1, 1) := by decide +kernel
theorem dX9_takes_52 : decode cX9_takes 52 = .ok (.ireturn, 1) := by decide +kernel
theorem dX9_layCoat_0 : decode cX9_layCoat 0 = .ok (.iload_n 1, 1) := by decide +kernel
theorem dX9_layCoat_1 : decode cX9_layCoat 1 = .ok (.istore 6, 2) := by decide +kernel
theorem dX9_layCoat_3 : decode cX9_layCoat 3 = .ok (.iload 6, 2) := by decide +kernel
theorem dX9_layCoat_5 : decode cX9_layCoat 5 = .ok (.iload_n 2, 1) := by decide +kernel
theorem dX9_layCoat_6 : decode cX9_layCoat 6 = .ok (.if_icmp .gt 44, 3) := by decide +kernel
theorem dX9_layCoat_9 : decode cX9_layCoat 9 = .ok (.iload 6, 2) := by decide +kernel
theorem dX9_layCoat_11 : decode cX9_layCoat 11 = .ok (.aload_n 0, 1) := by decide +kernel
theorem dX9_layCoat_12 : decode cX9_layCoat 12 = .ok (.getfield 10, 3) := by decide +kernel
theorem dX9_layCoat_15 : decode cX9_layCoat 15 = .ok (.invokevirtual 25, 3) := by decide +kernel
theorem dX9_layCoat_18 : decode cX9_layCoat 18 = .ok (.if_icmp .ge 32, 3) := by decide +kernel
theorem dX9_layCoat_21 : decode cX9_layCoat 21 = .ok (.aload_n 0, 1) := by decide +kernel
theorem dX9_layCoat_22 : decode cX9_layCoat 22 = .ok (.iload 6, 2) := by decide +kernel
theorem dX9_layCoat_24 : decode cX9_layCoat 24 = .ok (.invokevirtual 33, 3) := by decide +kernel
theorem dX9_layCoat_27 : decode cX9_layCoat 27 = .ok (.astore 7, 2) := by decide +kernel
theorem dX9_layCoat_29 : decode cX9_layCoat 29 = .ok (.aload 7, 2) := by decide +kernel
theorem dX9_layCoat_31 : decode cX9_layCoat 31 = .ok (.ifnull 13, 3) := by decide +kernel
theorem dX9_layCoat_34 : decode cX9_layCoat 34 = .ok (.aload 7, 2) := by decide +kernel
theorem dX9_layCoat_36 : decode cX9_layCoat 36 = .ok (.aload_n 3, 1) := by decide +kernel
theorem dX9_layCoat_37 : decode cX9_layCoat 37 = .ok (.iload 4, 2) := by decide +kernel
theorem dX9_layCoat_39 : decode cX9_layCoat 39 = .ok (.iload 5, 2) := by decide +kernel
theorem dX9_layCoat_41 : decode cX9_layCoat 41 = .ok (.invokevirtual 41, 3) := by decide +kernel
theorem dX9_layCoat_44 : decode cX9_layCoat 44 = .ok (.iinc 6 1, 3) := by decide +kernel
theorem dX9_layCoat_47 : decode cX9_layCoat 47 = .ok (.goto (-44), 3) := by decide +kernel
theorem dX9_layCoat_50 : decode cX9_layCoat 50 = .ok (.iconst 0, 1) := by decide +kernel
theorem dX9_layCoat_51 : decode cX9_layCoat 51 = .ok (.istore 6, 2) := by decide +kernel
theorem dX9_layCoat_53 : decode cX9_layCoat 53 = .ok (.iload_n 1, 1) := by decide +kernel
theorem dX9_layCoat_54 : decode cX9_layCoat 54 = .ok (.istore 7, 2) := by decide +kernel
theorem dX9_layCoat_56 : decode cX9_layCoat 56 = .ok (.iload 7, 2) := by decide +kernel
theorem dX9_layCoat_58 : decode cX9_layCoat 58 = .ok (.iload_n 2, 1) := by decide +kernel
theorem dX9_layCoat_59 : decode cX9_layCoat 59 = .ok (.if_icmp .gt 95, 3) := by decide +kernel
theorem dX9_layCoat_62 : decode cX9_layCoat 62 = .ok (.iload 7, 2) := by decide +kernel
theorem dX9_layCoat_64 : decode cX9_layCoat 64 = .ok (.aload_n 0, 1) := by decide +kernel
theorem dX9_layCoat_65 : decode cX9_layCoat 65 = .ok (.getfield 10, 3) := by decide +kernel
theorem dX9_layCoat_68 : decode cX9_layCoat 68 = .ok (.invokevirtual 25, 3) := by decide +kernel
theorem dX9_layCoat_71 : decode cX9_layCoat 71 = .ok (.if_icmp .ge 83, 3) := by decide +kernel
theorem dX9_layCoat_74 : decode cX9_layCoat 74 = .ok (.aload_n 0, 1) := by decide +kernel
theorem dX9_layCoat_75 : decode cX9_layCoat 75 = .ok (.iload 7, 2) := by decide +kernel
theorem dX9_layCoat_77 : decode cX9_layCoat 77 = .ok (.invokevirtual 33, 3) := by decide +kernel
theorem dX9_layCoat_80 : decode cX9_layCoat 80 = .ok (.astore 8, 2) := by decide +kernel
theorem dX9_layCoat_82 : decode cX9_layCoat 82 = .ok (.aload 8, 2) := by decide +kernel
theorem dX9_layCoat_84 : decode cX9_layCoat 84 = .ok (.ifnonnull 7, 3) := by decide +kernel
theorem dX9_layCoat_87 : decode cX9_layCoat 87 = .ok (.aconst_null, 1) := by decide +kernel
theorem dX9_layCoat_88 : decode cX9_layCoat 88 = .ok (.goto 8, 3) := by decide +kernel
theorem dX9_layCoat_91 : decode cX9_layCoat 91 = .ok (.aload 8, 2) := by decide +kernel
theorem dX9_layCoat_93 : decode cX9_layCoat 93 = .ok (.invokevirtual 45, 3) := by decide +kernel
theorem dX9_layCoat_96 : decode cX9_layCoat 96 = .ok (.astore 9, 2) := by decide +kernel
theorem dX9_layCoat_98 : decode cX9_layCoat 98 = .ok (.aload 9, 2) := by decide +kernel
theorem dX9_layCoat_100 : decode cX9_layCoat 100 = .ok (.ifnull 48, 3) := by decide +kernel
theorem dX9_layCoat_103 : decode cX9_layCoat 103 = .ok (.aload 9, 2) := by decide +kernel
theorem dX9_layCoat_105 : decode cX9_layCoat 105 = .ok (.aload 9, 2) := by decide +kernel
theorem dX9_layCoat_107 : decode cX9_layCoat 107 = .ok (.getfield 49, 3) := by decide +kernel
theorem dX9_layCoat_110 : decode cX9_layCoat 110 = .ok (.ifCond .ne 12, 3) := by decide +kernel
theorem dX9_layCoat_113 : decode cX9_layCoat 113 = .ok (.aload_n 0, 1) := by decide +kernel
theorem dX9_layCoat_114 : decode cX9_layCoat 114 = .ok (.iload 7, 2) := by decide +kernel
theorem dX9_layCoat_116 : decode cX9_layCoat 116 = .ok (.invokevirtual 55, 3) := by decide +kernel
theorem dX9_layCoat_119 : decode cX9_layCoat 119 = .ok (.ifCond .eq 7, 3) := by decide +kernel
theorem dX9_layCoat_122 : decode cX9_layCoat 122 = .ok (.iconst 1, 1) := by decide +kernel
theorem dX9_layCoat_123 : decode cX9_layCoat 123 = .ok (.goto 4, 3) := by decide +kernel
theorem dX9_layCoat_126 : decode cX9_layCoat 126 = .ok (.iconst 0, 1) := by decide +kernel
theorem dX9_layCoat_127 : decode cX9_layCoat 127 = .ok (.putfield 49, 3) := by decide +kernel
theorem dX9_layCoat_130 : decode cX9_layCoat 130 = .ok (.iload 6, 2) := by decide +kernel
theorem dX9_layCoat_132 : decode cX9_layCoat 132 = .ok (.aload 9, 2) := by decide +kernel
theorem dX9_layCoat_134 : decode cX9_layCoat 134 = .ok (.getfield 49, 3) := by decide +kernel
theorem dX9_layCoat_137 : decode cX9_layCoat 137 = .ok (.ifCond .eq 7, 3) := by decide +kernel
theorem dX9_layCoat_140 : decode cX9_layCoat 140 = .ok (.iconst 1, 1) := by decide +kernel
theorem dX9_layCoat_141 : decode cX9_layCoat 141 = .ok (.goto 4, 3) := by decide +kernel
theorem dX9_layCoat_144 : decode cX9_layCoat 144 = .ok (.iconst 0, 1) := by decide +kernel
theorem dX9_layCoat_145 : decode cX9_layCoat 145 = .ok (.iadd, 1) := by decide +kernel
theorem dX9_layCoat_146 : decode cX9_layCoat 146 = .ok (.istore 6, 2) := by decide +kernel
theorem dX9_layCoat_148 : decode cX9_layCoat 148 = .ok (.iinc 7 1, 3) := by decide +kernel
theorem dX9_layCoat_151 : decode cX9_layCoat 151 = .ok (.goto (-95), 3) := by decide +kernel
theorem dX9_layCoat_154 : decode cX9_layCoat 154 = .ok (.iload 6, 2) := by decide +kernel
theorem dX9_layCoat_156 : decode cX9_layCoat 156 = .ok (.ireturn, 1) := by decide +kernel
theorem dX9_hasUnplannedEdge_0 : decode cX9_hasUnplannedEdge 0 = .ok (.aload_n 0, 1) := by decide +kernel
theorem dX9_hasUnplannedEdge_1 : decode cX9_hasUnplannedEdge 1 = .ok (.iload_n 1, 1) := by decide +kernel
theorem dX9_hasUnplannedEdge_2 : decode cX9_hasUnplannedEdge 2 = .ok (.invokevirtual 33, 3) := by decide +kernel
theorem dX9_hasUnplannedEdge_5 : decode cX9_hasUnplannedEdge 5 = .ok (.astore_n 2, 1) := by decide +kernel
theorem dX9_hasUnplannedEdge_6 : decode cX9_hasUnplannedEdge 6 = .ok (.aload_n 2, 1) := by decide +kernel
theorem dX9_hasUnplannedEdge_7 : decode cX9_hasUnplannedEdge 7 = .ok (.ifnonnull 5, 3) := by decide +kernel
theorem dX9_hasUnplannedEdge_10 : decode cX9_hasUnplannedEdge 10 = .ok (.iconst 0, 1) := by decide +kernel
theorem dX9_hasUnplannedEdge_11 : decode cX9_hasUnplannedEdge 11 = .ok (.ireturn, 1) := by decide +kernel
theorem dX9_hasUnplannedEdge_12 : decode cX9_hasUnplannedEdge 12 = .ok (.aload_n 0, 1) := by decide +kernel
theorem dX9_hasUnplannedEdge_13 : decode cX9_hasUnplannedEdge 13 = .ok (.iload_n 1, 1) := by decide +kernel
theorem dX9_hasUnplannedEdge_14 : decode cX9_hasUnplannedEdge 14 = .ok (.iconst 1, 1) := by decide +kernel
theorem dX9_hasUnplannedEdge_15 : decode cX9_hasUnplannedEdge 15 = .ok (.isub, 1) := by decide +kernel
theorem dX9_hasUnplannedEdge_16 : decode cX9_hasUnplannedEdge 16 = .ok (.invokevirtual 33, 3) := by decide +kernel
theorem dX9_hasUnplannedEdge_19 : decode cX9_hasUnplannedEdge 19 = .ok (.astore_n 3, 1) := by decide +kernel
theorem dX9_hasUnplannedEdge_20 : decode cX9_hasUnplannedEdge 20 = .ok (.aload_n 3, 1) := by decide +kernel
theorem dX9_hasUnplannedEdge_21 : decode cX9_hasUnplannedEdge 21 = .ok (.ifnull 20, 3) := by decide +kernel
theorem dX9_hasUnplannedEdge_24 : decode cX9_hasUnplannedEdge 24 = .ok (.aload_n 3, 1) := by decide +kernel
theorem dX9_hasUnplannedEdge_25 : decode cX9_hasUnplannedEdge 25 = .ok (.getfield 59, 3) := by decide +kernel
theorem dX9_hasUnplannedEdge_28 : decode cX9_hasUnplannedEdge 28 = .ok (.ifCond .ne 13, 3) := by decide +kernel
theorem dX9_hasUnplannedEdge_31 : decode cX9_hasUnplannedEdge 31 = .ok (.aload_n 2, 1) := by decide +kernel
theorem dX9_hasUnplannedEdge_32 : decode cX9_hasUnplannedEdge 32 = .ok (.aload_n 3, 1) := by decide +kernel
theorem dX9_hasUnplannedEdge_33 : decode cX9_hasUnplannedEdge 33 = .ok (.invokevirtual 62, 3) := by decide +kernel
theorem dX9_hasUnplannedEdge_36 : decode cX9_hasUnplannedEdge 36 = .ok (.ifCond .eq 5, 3) := by decide +kernel
theorem dX9_hasUnplannedEdge_39 : decode cX9_hasUnplannedEdge 39 = .ok (.iconst 1, 1) := by decide +kernel
theorem dX9_hasUnplannedEdge_40 : decode cX9_hasUnplannedEdge 40 = .ok (.ireturn, 1) := by decide +kernel
theorem dX9_hasUnplannedEdge_41 : decode cX9_hasUnplannedEdge 41 = .ok (.aload_n 0, 1) := by decide +kernel
theorem dX9_hasUnplannedEdge_42 : decode cX9_hasUnplannedEdge 42 = .ok (.iload_n 1, 1) := by decide +kernel
theorem dX9_hasUnplannedEdge_43 : decode cX9_hasUnplannedEdge 43 = .ok (.iconst 1, 1) := by decide +kernel
theorem dX9_hasUnplannedEdge_44 : decode cX9_hasUnplannedEdge 44 = .ok (.iadd, 1) := by decide +kernel
theorem dX9_hasUnplannedEdge_45 : decode cX9_hasUnplannedEdge 45 = .ok (.invokevirtual 33, 3) := by decide +kernel
theorem dX9_hasUnplannedEdge_48 : decode cX9_hasUnplannedEdge 48 = .ok (.astore 4, 2) := by decide +kernel
theorem dX9_hasUnplannedEdge_50 : decode cX9_hasUnplannedEdge 50 = .ok (.aload 4, 2) := by decide +kernel
theorem dX9_hasUnplannedEdge_52 : decode cX9_hasUnplannedEdge 52 = .ok (.ifnull 23, 3) := by decide +kernel
theorem dX9_hasUnplannedEdge_55 : decode cX9_hasUnplannedEdge 55 = .ok (.aload_n 2, 1) := by decide +kernel
theorem dX9_hasUnplannedEdge_56 : decode cX9_hasUnplannedEdge 56 = .ok (.getfield 59, 3) := by decide +kernel
theorem dX9_hasUnplannedEdge_59 : decode cX9_hasUnplannedEdge 59 = .ok (.ifCond .ne 16, 3) := by decide +kernel
theorem dX9_hasUnplannedEdge_62 : decode cX9_hasUnplannedEdge 62 = .ok (.aload_n 2, 1) := by decide +kernel
theorem dX9_hasUnplannedEdge_63 : decode cX9_hasUnplannedEdge 63 = .ok (.aload 4, 2) := by decide +kernel
theorem dX9_hasUnplannedEdge_65 : decode cX9_hasUnplannedEdge 65 = .ok (.invokevirtual 62, 3) := by decide +kernel
theorem dX9_hasUnplannedEdge_68 : decode cX9_hasUnplannedEdge 68 = .ok (.ifCond .eq 7, 3) := by decide +kernel
theorem dX9_hasUnplannedEdge_71 : decode cX9_hasUnplannedEdge 71 = .ok (.iconst 1, 1) := by decide +kernel
theorem dX9_hasUnplannedEdge_72 : decode cX9_hasUnplannedEdge 72 = .ok (.goto 4, 3) := by decide +kernel
theorem dX9_hasUnplannedEdge_75 : decode cX9_hasUnplannedEdge 75 = .ok (.iconst 0, 1) := by decide +kernel
theorem dX9_hasUnplannedEdge_76 : decode cX9_hasUnplannedEdge 76 = .ok (.ireturn, 1) := by decide +kernel
theorem dX9_isCoatedOn_0 : decode cX9_isCoatedOn 0 = .ok (.iload_n 1, 1) := by decide +kernel
theorem dX9_isCoatedOn_1 : decode cX9_isCoatedOn 1 = .ok (.istore 4, 2) := by decide +kernel
theorem dX9_isCoatedOn_3 : decode cX9_isCoatedOn 3 = .ok (.iload 4, 2) := by decide +kernel
theorem dX9_isCoatedOn_5 : decode cX9_isCoatedOn 5 = .ok (.iload_n 2, 1) := by decide +kernel
theorem dX9_isCoatedOn_6 : decode cX9_isCoatedOn 6 = .ok (.if_icmp .gt 61, 3) := by decide +kernel
theorem dX9_isCoatedOn_9 : decode cX9_isCoatedOn 9 = .ok (.iload 4, 2) := by decide +kernel
theorem dX9_isCoatedOn_11 : decode cX9_isCoatedOn 11 = .ok (.aload_n 0, 1) := by decide +kernel
theorem dX9_isCoatedOn_12 : decode cX9_isCoatedOn 12 = .ok (.getfield 10, 3) := by decide +kernel
theorem dX9_isCoatedOn_15 : decode cX9_isCoatedOn 15 = .ok (.invokevirtual 25, 3) := by decide +kernel
theorem dX9_isCoatedOn_18 : decode cX9_isCoatedOn 18 = .ok (.if_icmp .ge 49, 3) := by decide +kernel
theorem dX9_isCoatedOn_21 : decode cX9_isCoatedOn 21 = .ok (.aload_n 0, 1) := by decide +kernel
theorem dX9_isCoatedOn_22 : decode cX9_isCoatedOn 22 = .ok (.iload 4, 2) := by decide +kernel
theorem dX9_isCoatedOn_24 : decode cX9_isCoatedOn 24 = .ok (.invokevirtual 33, 3) := by decide +kernel
theorem dX9_isCoatedOn_27 : decode cX9_isCoatedOn 27 = .ok (.astore 5, 2) := by decide +kernel
theorem dX9_isCoatedOn_29 : decode cX9_isCoatedOn 29 = .ok (.aload 5, 2) := by decide +kernel
theorem dX9_isCoatedOn_31 : decode cX9_isCoatedOn 31 = .ok (.ifnonnull 7, 3) := by decide +kernel
theorem dX9_isCoatedOn_34 : decode cX9_isCoatedOn 34 = .ok (.aconst_null, 1) := by decide +kernel
theorem dX9_isCoatedOn_35 : decode cX9_isCoatedOn 35 = .ok (.goto 8, 3) := by decide +kernel
theorem dX9_isCoatedOn_38 : decode cX9_isCoatedOn 38 = .ok (.aload 5, 2) := by decide +kernel
theorem dX9_isCoatedOn_40 : decode cX9_isCoatedOn 40 = .ok (.invokevirtual 45, 3) := by decide +kernel
theorem dX9_isCoatedOn_43 : decode cX9_isCoatedOn 43 = .ok (.astore 6, 2) := by decide +kernel
theorem dX9_isCoatedOn_45 : decode cX9_isCoatedOn 45 = .ok (.aload 6, 2) := by decide +kernel
theorem dX9_isCoatedOn_47 : decode cX9_isCoatedOn 47 = .ok (.ifnull 12, 3) := by decide +kernel
theorem dX9_isCoatedOn_50 : decode cX9_isCoatedOn 50 = .ok (.aload 6, 2) := by decide +kernel
theorem dX9_isCoatedOn_52 : decode cX9_isCoatedOn 52 = .ok (.getfield 66, 3) := by decide +kernel
theorem dX9_isCoatedOn_55 : decode cX9_isCoatedOn 55 = .ok (.iload_n 3, 1) := by decide +kernel
theorem dX9_isCoatedOn_56 : decode cX9_isCoatedOn 56 = .ok (.if_icmp .eq 5, 3) := by decide +kernel
theorem dX9_isCoatedOn_59 : decode cX9_isCoatedOn 59 = .ok (.iconst 0, 1) := by decide +kernel
theorem dX9_isCoatedOn_60 : decode cX9_isCoatedOn 60 = .ok (.ireturn, 1) := by decide +kernel
theorem dX9_isCoatedOn_61 : decode cX9_isCoatedOn 61 = .ok (.iinc 4 1, 3) := by decide +kernel
theorem dX9_isCoatedOn_64 : decode cX9_isCoatedOn 64 = .ok (.goto (-61), 3) := by decide +kernel
theorem dX9_isCoatedOn_67 : decode cX9_isCoatedOn 67 = .ok (.iconst 1, 1) := by decide +kernel
theorem dX9_isCoatedOn_68 : decode cX9_isCoatedOn 68 = .ok (.ireturn, 1) := by decide +kernel
theorem dX9_scratchTops_0 : decode cX9_scratchTops 0 = .ok (.iconst 0, 1) := by decide +kernel
theorem dX9_scratchTops_1 : decode cX9_scratchTops 1 = .ok (.istore_n 3, 1) := by decide +kernel
theorem dX9_scratchTops_2 : decode cX9_scratchTops 2 = .ok (.iload_n 1, 1) := by decide +kernel
theorem dX9_scratchTops_3 : decode cX9_scratchTops 3 = .ok (.istore 4, 2) := by decide +kernel
theorem dX9_scratchTops_5 : decode cX9_scratchTops 5 = .ok (.iload 4, 2) := by decide +kernel
theorem dX9_scratchTops_7 : decode cX9_scratchTops 7 = .ok (.iload_n 2, 1) := by decide +kernel
theorem dX9_scratchTops_8 : decode cX9_scratchTops 8 = .ok (.if_icmp .gt 67, 3) := by decide +kernel
theorem dX9_scratchTops_11 : decode cX9_scratchTops 11 = .ok (.iload 4, 2) := by decide +kernel
theorem dX9_scratchTops_13 : decode cX9_scratchTops 13 = .ok (.aload_n 0, 1) := by decide +kernel
theorem dX9_scratchTops_14 : decode cX9_scratchTops 14 = .ok (.getfield 10, 3) := by decide +kernel
theorem dX9_scratchTops_17 : decode cX9_scratchTops 17 = .ok (.invokevirtual 25, 3) := by decide +kernel
theorem dX9_scratchTops_20 : decode cX9_scratchTops 20 = .ok (.if_icmp .ge 55, 3) := by decide +kernel
theorem dX9_scratchTops_23 : decode cX9_scratchTops 23 = .ok (.aload_n 0, 1) := by decide +kernel
theorem dX9_scratchTops_24 : decode cX9_scratchTops 24 = .ok (.iload 4, 2) := by decide +kernel
theorem dX9_scratchTops_26 : decode cX9_scratchTops 26 = .ok (.invokevirtual 33, 3) := by decide +kernel
theorem dX9_scratchTops_29 : decode cX9_scratchTops 29 = .ok (.astore 5, 2) := by decide +kernel
theorem dX9_scratchTops_31 : decode cX9_scratchTops 31 = .ok (.aload 5, 2) := by decide +kernel
theorem dX9_scratchTops_33 : decode cX9_scratchTops 33 = .ok (.ifnonnull 7, 3) := by decide +kernel
theorem dX9_scratchTops_36 : decode cX9_scratchTops 36 = .ok (.aconst_null, 1) := by decide +kernel
theorem dX9_scratchTops_37 : decode cX9_scratchTops 37 = .ok (.goto 8, 3) := by decide +kernel
theorem dX9_scratchTops_40 : decode cX9_scratchTops 40 = .ok (.aload 5, 2) := by decide +kernel
theorem dX9_scratchTops_42 : decode cX9_scratchTops 42 = .ok (.invokevirtual 45, 3) := by decide +kernel
theorem dX9_scratchTops_45 : decode cX9_scratchTops 45 = .ok (.astore 6, 2) := by decide +kernel
theorem dX9_scratchTops_47 : decode cX9_scratchTops 47 = .ok (.aload 6, 2) := by decide +kernel
theorem dX9_scratchTops_49 : decode cX9_scratchTops 49 = .ok (.ifnull 20, 3) := by decide +kernel
theorem dX9_scratchTops_52 : decode cX9_scratchTops 52 = .ok (.aload 6, 2) := by decide +kernel
theorem dX9_scratchTops_54 : decode cX9_scratchTops 54 = .ok (.getfield 70, 3) := by decide +kernel
theorem dX9_scratchTops_57 : decode cX9_scratchTops 57 = .ok (.ifCond .ne 12, 3) := by decide +kernel
theorem dX9_scratchTops_60 : decode cX9_scratchTops 60 = .ok (.aload 6, 2) := by decide +kernel
theorem dX9_scratchTops_62 : decode cX9_scratchTops 62 = .ok (.iconst 1, 1) := by decide +kernel
theorem dX9_scratchTops_63 : decode cX9_scratchTops 63 = .ok (.putfield 70, 3) := by decide +kernel
theorem dX9_scratchTops_66 : decode cX9_scratchTops 66 = .ok (.iinc 3 1, 3) := by decide +kernel
theorem dX9_scratchTops_69 : decode cX9_scratchTops 69 = .ok (.iinc 4 1, 3) := by decide +kernel
theorem dX9_scratchTops_72 : decode cX9_scratchTops 72 = .ok (.goto (-67), 3) := by decide +kernel
theorem dX9_scratchTops_75 : decode cX9_scratchTops 75 = .ok (.iload_n 3, 1) := by decide +kernel
theorem dX9_scratchTops_76 : decode cX9_scratchTops 76 = .ok (.ireturn, 1) := by decide +kernel
theorem dX9_dryFor_0 : decode cX9_dryFor 0 = .ok (.iload_n 1, 1) := by decide +kernel
theorem dX9_dryFor_1 : decode cX9_dryFor 1 = .ok (.iconst 1, 1) := by decide +kernel
theorem dX9_dryFor_2 : decode cX9_dryFor 2 = .ok (.iload_n 2, 1) := by decide +kernel
theorem dX9_dryFor_3 : decode cX9_dryFor 3 = .ok (.iconst 2, 1) := by decide +kernel
theorem dX9_dryFor_4 : decode cX9_dryFor 4 = .ok (.idiv, 1) := by decide +kernel
theorem dX9_dryFor_5 : decode cX9_dryFor 5 = .ok (.iload_n 3, 1) := by decide +kernel
theorem dX9_dryFor_6 : decode cX9_dryFor 6 = .ok (.iadd, 1) := by decide +kernel
theorem dX9_dryFor_7 : decode cX9_dryFor 7 = .ok (.aload_n 0, 1) := by decide +kernel
theorem dX9_dryFor_8 : decode cX9_dryFor 8 = .ok (.getfield 73, 3) := by decide +kernel
theorem dX9_dryFor_11 : decode cX9_dryFor 11 = .ok (.isub, 1) := by decide +kernel
theorem dX9_dryFor_12 : decode cX9_dryFor 12 = .ok (.invokestatic 76, 3) := by decide +kernel
theorem dX9_dryFor_15 : decode cX9_dryFor 15 = .ok (.imul, 1) := by decide +kernel
theorem dX9_dryFor_16 : decode cX9_dryFor 16 = .ok (.istore 4, 2) := by decide +kernel
theorem dX9_dryFor_18 : decode cX9_dryFor 18 = .ok (.iconst 0, 1) := by decide +kernel
theorem dX9_dryFor_19 : decode cX9_dryFor 19 = .ok (.istore 5, 2) := by decide +kernel
theorem dX9_dryFor_21 : decode cX9_dryFor 21 = .ok (.iconst 0, 1) := by decide +kernel
theorem dX9_dryFor_22 : decode cX9_dryFor 22 = .ok (.istore 6, 2) := by decide +kernel
theorem dX9_dryFor_24 : decode cX9_dryFor 24 = .ok (.iload 6, 2) := by decide +kernel
theorem dX9_dryFor_26 : decode cX9_dryFor 26 = .ok (.aload_n 0, 1) := by decide +kernel
theorem dX9_dryFor_27 : decode cX9_dryFor 27 = .ok (.getfield 10, 3) := by decide +kernel
theorem dX9_dryFor_30 : decode cX9_dryFor 30 = .ok (.invokevirtual 25, 3) := by decide +kernel
theorem dX9_dryFor_33 : decode cX9_dryFor 33 = .ok (.if_icmp .ge 45, 3) := by decide +kernel
theorem dX9_dryFor_36 : decode cX9_dryFor 36 = .ok (.aload_n 0, 1) := by decide +kernel
theorem dX9_dryFor_37 : decode cX9_dryFor 37 = .ok (.getfield 10, 3) := by decide +kernel
theorem dX9_dryFor_40 : decode cX9_dryFor 40 = .ok (.iload 6, 2) := by decide +kernel
theorem dX9_dryFor_42 : decode cX9_dryFor 42 = .ok (.invokevirtual 29, 3) := by decide +kernel
theorem dX9_dryFor_45 : decode cX9_dryFor 45 = .ok (.checkcast 16, 3) := by decide +kernel
theorem dX9_dryFor_48 : decode cX9_dryFor 48 = .ok (.invokevirtual 45, 3) := by decide +kernel
theorem dX9_dryFor_51 : decode cX9_dryFor 51 = .ok (.astore 7, 2) := by decide +kernel
theorem dX9_dryFor_53 : decode cX9_dryFor 53 = .ok (.aload 7, 2) := by decide +kernel
theorem dX9_dryFor_55 : decode cX9_dryFor 55 = .ok (.ifnull 17, 3) := by decide +kernel
theorem dX9_dryFor_58 : decode cX9_dryFor 58 = .ok (.aload 7, 2) := by decide +kernel
theorem dX9_dryFor_60 : decode cX9_dryFor 60 = .ok (.iload 4, 2) := by decide +kernel
theorem dX9_dryFor_62 : decode cX9_dryFor 62 = .ok (.iload_n 2, 1) := by decide +kernel
theorem dX9_dryFor_63 : decode cX9_dryFor 63 = .ok (.invokevirtual 82, 3) := by decide +kernel
theorem dX9_dryFor_66 : decode cX9_dryFor 66 = .ok (.ifCond .eq 6, 3) := by decide +kernel
theorem dX9_dryFor_69 : decode cX9_dryFor 69 = .ok (.iinc 5 1, 3) := by decide +kernel
theorem dX9_dryFor_72 : decode cX9_dryFor 72 = .ok (.iinc 6 1, 3) := by decide +kernel
theorem dX9_dryFor_75 : decode cX9_dryFor 75 = .ok (.goto (-51), 3) := by decide +kernel
theorem dX9_dryFor_78 : decode cX9_dryFor 78 = .ok (.iload 5, 2) := by decide +kernel
theorem dX9_dryFor_80 : decode cX9_dryFor 80 = .ok (.ireturn, 1) := by decide +kernel
theorem dX9_countPaid_0 : decode cX9_countPaid 0 = .ok (.iconst 0, 1) := by decide +kernel
theorem dX9_countPaid_1 : decode cX9_countPaid 1 = .ok (.istore_n 2, 1) := by decide +kernel
theorem dX9_countPaid_2 : decode cX9_countPaid 2 = .ok (.iconst 0, 1) := by decide +kernel
theorem dX9_countPaid_3 : decode cX9_countPaid 3 = .ok (.istore_n 3, 1) := by decide +kernel
theorem dX9_countPaid_4 : decode cX9_countPaid 4 = .ok (.iload_n 3, 1) := by decide +kernel
theorem dX9_countPaid_5 : decode cX9_countPaid 5 = .ok (.aload_n 0, 1) := by decide +kernel
theorem dX9_countPaid_6 : decode cX9_countPaid 6 = .ok (.getfield 10, 3) := by decide +kernel
theorem dX9_countPaid_9 : decode cX9_countPaid 9 = .ok (.invokevirtual 25, 3) := by decide +kernel
theorem dX9_countPaid_12 : decode cX9_countPaid 12 = .ok (.if_icmp .ge 27, 3) := by decide +kernel
theorem dX9_countPaid_15 : decode cX9_countPaid 15 = .ok (.iload_n 2, 1) := by decide +kernel
theorem dX9_countPaid_16 : decode cX9_countPaid 16 = .ok (.aload_n 0, 1) := by decide +kernel
theorem dX9_countPaid_17 : decode cX9_countPaid 17 = .ok (.getfield 10, 3) := by decide +kernel
theorem dX9_countPaid_20 : decode cX9_countPaid 20 = .ok (.iload_n 3, 1) := by decide +kernel
theorem dX9_countPaid_21 : decode cX9_countPaid 21 = .ok (.invokevirtual 29, 3) := by decide +kernel
theorem dX9_countPaid_24 : decode cX9_countPaid 24 = .ok (.checkcast 16, 3) := by decide +kernel
theorem dX9_countPaid_27 : decode cX9_countPaid 27 = .ok (.iload_n 1, 1) := by decide +kernel
theorem dX9_countPaid_28 : decode cX9_countPaid 28 = .ok (.invokevirtual 86, 3) := by decide +kernel
theorem dX9_countPaid_31 : decode cX9_countPaid 31 = .ok (.iadd, 1) := by decide +kernel
theorem dX9_countPaid_32 : decode cX9_countPaid 32 = .ok (.istore_n 2, 1) := by decide +kernel
theorem dX9_countPaid_33 : decode cX9_countPaid 33 = .ok (.iinc 3 1, 3) := by decide +kernel
theorem dX9_countPaid_36 : decode cX9_countPaid 36 = .ok (.goto (-32), 3) := by decide +kernel
theorem dX9_countPaid_39 : decode cX9_countPaid 39 = .ok (.iload_n 2, 1) := by decide +kernel
theorem dX9_countPaid_40 : decode cX9_countPaid 40 = .ok (.ireturn, 1) := by decide +kernel
theorem dX10_init_0 : decode cX10_init 0 = .ok (.aload_n 0, 1) := by decide +kernel
theorem dX10_init_1 : decode cX10_init 1 = .ok (.invokespecial 1, 3) := by decide +kernel
theorem dX10_init_4 : decode cX10_init 4 = .ok (.aload_n 0, 1) := by decide +kernel
theorem dX10_init_5 : decode cX10_init 5 = .ok (.new 7, 3) := by decide +kernel
theorem dX10_init_8 : decode cX10_init 8 = .ok (.dup, 1) := by decide +kernel
theorem dX10_init_9 : decode cX10_init 9 = .ok (.invokespecial 9, 3) := by decide +kernel
theorem dX10_init_12 : decode cX10_init 12 = .ok (.putfield 10, 3) := by decide +kernel
theorem dX10_init_15 : decode cX10_init 15 = .ok (.aload_n 0, 1) := by decide +kernel
theorem dX10_init_16 : decode cX10_init 16 = .ok (.new 16, 3) := by decide +kernel
theorem dX10_init_19 : decode cX10_init 19 = .ok (.dup, 1) := by decide +kernel
theorem dX10_init_20 : decode cX10_init 20 = .ok (.invokespecial 18, 3) := by decide +kernel
theorem dX10_init_23 : decode cX10_init 23 = .ok (.putfield 19, 3) := by decide +kernel
theorem dX10_init_26 : decode cX10_init 26 = .ok (.aload_n 0, 1) := by decide +kernel
theorem dX10_init_27 : decode cX10_init 27 = .ok (.new 7, 3) := by decide +kernel
theorem dX10_init_30 : decode cX10_init 30 = .ok (.dup, 1) := by decide +kernel
theorem dX10_init_31 : decode cX10_init 31 = .ok (.invokespecial 9, 3) := by decide +kernel
theorem dX10_init_34 : decode cX10_init 34 = .ok (.putfield 23, 3) := by decide +kernel
theorem dX10_init_37 : decode cX10_init 37 = .ok (.aload_n 0, 1) := by decide +kernel
theorem dX10_init_38 : decode cX10_init 38 = .ok (.new 26, 3) := by decide +kernel
theorem dX10_init_41 : decode cX10_init 41 = .ok (.dup, 1) := by decide +kernel
theorem dX10_init_42 : decode cX10_init 42 = .ok (.invokespecial 28, 3) := by decide +kernel
theorem dX10_init_45 : decode cX10_init 45 = .ok (.putfield 29, 3) := by decide +kernel
theorem dX10_init_48 : decode cX10_init 48 = .ok (.aload_n 0, 1) := by decide +kernel
theorem dX10_init_49 : decode cX10_init 49 = .ok (.iconst 0, 1) := by decide +kernel
theorem dX10_init_50 : decode cX10_init 50 = .ok (.putfield 33, 3) := by decide +kernel
theorem dX10_init_53 : decode cX10_init 53 = .ok (.aload_n 0, 1) := by decide +kernel
theorem dX10_init_54 : decode cX10_init 54 = .ok (.bipush 10, 2) := by decide +kernel
theorem dX10_init_56 : decode cX10_init 56 = .ok (.putfield 37, 3) := by decide +kernel
theorem dX10_init_59 : decode cX10_init 59 = .ok (.aload_n 0, 1) := by decide +kernel
theorem dX10_init_60 : decode cX10_init 60 = .ok (.iconst 0, 1) := by decide +kernel
theorem dX10_init_61 : decode cX10_init 61 = .ok (.putfield 40, 3) := by decide +kernel
theorem dX10_init_64 : decode cX10_init 64 = .ok (.return_, 1) := by decide +kernel
theorem dX10_wall_0 : decode cX10_wall 0 = .ok (.iload_n 1, 1) := by decide +kernel
theorem dX10_wall_1 : decode cX10_wall 1 = .ok (.iconst 1, 1) := by decide +kernel
theorem dX10_wall_2 : decode cX10_wall 2 = .ok (.if_icmp .lt 9, 3) := by decide +kernel
theorem dX10_wall_5 : decode cX10_wall 5 = .ok (.iload_n 1, 1) := by decide +kernel
theorem dX10_wall_6 : decode cX10_wall 6 = .ok (.bipush 12, 2) := by decide +kernel
theorem dX10_wall_8 : decode cX10_wall 8 = .ok (.if_icmp .le 13, 3) := by decide +kernel
theorem dX10_wall_11 : decode cX10_wall 11 = .ok (.new 43, 3) := by decide +kernel
theorem dX10_wall_14 : decode cX10_wall 14 = .ok (.dup, 1) := by decide +kernel
theorem dX10_wall_15 : decode cX10_wall 15 = .ok (.ldc 45, 2) := by decide +kernel
theorem dX10_wall_17 : decode cX10_wall 17 = .ok (.invokespecial 47, 3) := by decide +kernel
theorem dX10_wall_20 : decode cX10_wall 20 = .ok (.athrow, 1) := by decide +kernel
theorem dX10_wall_21 : decode cX10_wall 21 = .ok (.iload_n 2, 1) := by decide +kernel
theorem dX10_wall_22 : decode cX10_wall 22 = .ok (.ifCond .lt 11, 3) := by decide +kernel
theorem dX10_wall_25 : decode cX10_wall 25 = .ok (.iload_n 2, 1) := by decide +kernel
theorem dX10_wall_26 : decode cX10_wall 26 = .ok (.getstatic 50, 3) := by decide +kernel
theorem dX10_wall_29 : decode cX10_wall 29 = .ok (.arraylength, 1) := by decide +kernel
theorem dX10_wall_30 : decode cX10_wall 30 = .ok (.if_icmp .lt 13, 3) := by decide +kernel
theorem dX10_wall_33 : decode cX10_wall 33 = .ok (.new 43, 3) := by decide +kernel
theorem dX10_wall_36 : decode cX10_wall 36 = .ok (.dup, 1) := by decide +kernel
theorem dX10_wall_37 : decode cX10_wall 37 = .ok (.ldc 54, 2) := by decide +kernel
theorem dX10_wall_39 : decode cX10_wall 39 = .ok (.invokespecial 47, 3) := by decide +kernel
theorem dX10_wall_42 : decode cX10_wall 42 = .ok (.athrow, 1) := by decide +kernel
theorem dX10_wall_43 : decode cX10_wall 43 = .ok (.aload_n 0, 1) := by decide +kernel
theorem dX10_wall_44 : decode cX10_wall 44 = .ok (.getfield 10, 3) := by decide +kernel
theorem dX10_wall_47 : decode cX10_wall 47 = .ok (.invokevirtual 56, 3) := by decide +kernel
theorem dX10_wall_50 : decode cX10_wall 50 = .ok (.bipush 10, 2) := by decide +kernel
theorem dX10_wall_52 : decode cX10_wall 52 = .ok (.if_icmp .lt 13, 3) := by decide +kernel
theorem dX10_wall_55 : decode cX10_wall 55 = .ok (.new 60, 3) := by decide +kernel
theorem dX10_wall_58 : decode cX10_wall 58 = .ok (.dup, 1) := by decide +kernel
theorem dX10_wall_59 : decode cX10_wall 59 = .ok (.ldc 62, 2) := by decide +kernel
theorem dX10_wall_61 : decode cX10_wall 61 = .ok (.invokespecial 64, 3) := by decide +kernel
theorem dX10_wall_64 : decode cX10_wall 64 = .ok (.athrow, 1) := by decide +kernel
theorem dX10_wall_65 : decode cX10_wall 65 = .ok (.aload_n 0, 1) := by decide +kernel
theorem dX10_wall_66 : decode cX10_wall 66 = .ok (.getfield 10, 3) := by decide +kernel
theorem dX10_wall_69 : decode cX10_wall 69 = .ok (.new 65, 3) := by decide +kernel
theorem dX10_wall_72 : decode cX10_wall 72 = .ok (.dup, 1) := by decide +kernel
theorem dX10_wall_73 : decode cX10_wall 73 = .ok (.iload_n 1, 1) := by decide +kernel
theorem dX10_wall_74 : decode cX10_wall 74 = .ok (.getstatic 50, 3) := by decide +kernel
theorem dX10_wall_77 : decode cX10_wall 77 = .ok (.iload_n 2, 1) := by decide +kernel
theorem dX10_wall_78 : decode cX10_wall 78 = .ok (.aaload, 1) := by decide +kernel
theorem dX10_wall_79 : decode cX10_wall 79 = .ok (.invokespecial 67, 3) := by decide +kernel
theorem dX10_wall_82 : decode cX10_wall 82 = .ok (.invokevirtual 70, 3) := by decide +kernel
theorem dX10_wall_85 : decode cX10_wall 85 = .ok (.pop, 1) := by decide +kernel
theorem dX10_wall_86 : decode cX10_wall 86 = .ok (.aload_n 0, 1) := by decide +kernel
theorem dX10_wall_87 : decode cX10_wall 87 = .ok (.getfield 10, 3) := by decide +kernel
theorem dX10_wall_90 : decode cX10_wall 90 = .ok (.invokevirtual 56, 3) := by decide +kernel
theorem dX10_wall_93 : decode cX10_wall 93 = .ok (.iconst 1, 1) := by decide +kernel
theorem dX10_wall_94 : decode cX10_wall 94 = .ok (.isub, 1) := by decide +kernel
theorem dX10_wall_95 : decode cX10_wall 95 = .ok (.ireturn, 1) := by decide +kernel
theorem dX10_weather_0 : decode cX10_weather 0 = .ok (.iload_n 1, 1) := by decide +kernel
theorem dX10_weather_1 : decode cX10_weather 1 = .ok (.ifCond .lt 9, 3) := by decide +kernel
theorem dX10_weather_4 : decode cX10_weather 4 = .ok (.iload_n 1, 1) := by decide +kernel
theorem dX10_weather_5 : decode cX10_weather 5 = .ok (.bipush 50, 2) := by decide +kernel
theorem dX10_weather_7 : decode cX10_weather 7 = .ok (.if_icmp .le 13, 3) := by decide +kernel
theorem dX10_weather_10 : decode cX10_weather 10 = .ok (.new 43, 3) := by decide +kernel
theorem dX10_weather_13 : decode cX10_weather 13 = .ok (.dup, 1) := by decide +kernel
theorem dX10_weather_14 : decode cX10_weather 14 = .ok (.ldc 74, 2) := by decide +kernel
theorem dX10_weather_16 : decode cX10_weather 16 = .ok (.invokespecial 47, 3) := by decide +kernel
theorem dX10_weather_19 : decode cX10_weather 19 = .ok (.athrow, 1) := by decide +kernel
theorem dX10_weather_20 : decode cX10_weather 20 = .ok (.iload_n 2, 1) := by decide +kernel
theorem dX10_weather_21 : decode cX10_weather 21 = .ok (.ifCond .lt 9, 3) := by decide +kernel
theorem dX10_weather_24 : decode cX10_weather 24 = .ok (.iload_n 2, 1) := by decide +kernel
theorem dX10_weather_25 : decode cX10_weather 25 = .ok (.bipush 20, 2) := by decide +kernel
theorem dX10_weather_27 : decode cX10_weather 27 = .ok (.if_icmp .le 13, 3) := by decide +kernel
theorem dX10_weather_30 : decode cX10_weather 30 = .ok (.new 43, 3) := by decide +kernel
theorem dX10_weather_33 : decode cX10_weather 33 = .ok (.dup, 1) := by decide +kernel
theorem dX10_weather_34 : decode cX10_weather 34 = .ok (.ldc 76, 2) := by decide +kernel
theorem dX10_weather_36 : decode cX10_weather 36 = .ok (.invokespecial 47, 3) := by decide +kernel
theorem dX10_weather_39 : decode cX10_weather 39 = .ok (.athrow, 1) := by decide +kernel
theorem dX10_weather_40 : decode cX10_weather 40 = .ok (.aload_n 0, 1) := by decide +kernel
theorem dX10_weather_41 : decode cX10_weather 41 = .ok (.iload_n 1, 1) := by decide +kernel
theorem dX10_weather_42 : decode cX10_weather 42 = .ok (.putfield 37, 3) := by decide +kernel
theorem dX10_weather_45 : decode cX10_weather 45 = .ok (.aload_n 0, 1) := by decide +kernel
theorem dX10_weather_46 : decode cX10_weather 46 = .ok (.iload_n 2, 1) := by decide +kernel
theorem dX10_weather_47 : decode cX10_weather 47 = .ok (.putfield 40, 3) := by decide +kernel
theorem dX10_weather_50 : decode cX10_weather 50 = .ok (.return_, 1) := by decide +kernel
theorem dX10_damp_0 : decode cX10_damp 0 = .ok (.aload_n 0, 1) := by decide +kernel
theorem dX10_damp_1 : decode cX10_damp 1 = .ok (.iload_n 1, 1) := by decide +kernel
theorem dX10_damp_2 : decode cX10_damp 2 = .ok (.invokevirtual 78, 3) := by decide +kernel
theorem dX10_damp_5 : decode cX10_damp 5 = .ok (.astore_n 3, 1) := by decide +kernel
theorem dX10_damp_6 : decode cX10_damp 6 = .ok (.iload_n 2, 1) := by decide +kernel
theorem dX10_damp_7 : decode cX10_damp 7 = .ok (.ifCond .lt 9, 3) := by decide +kernel
theorem dX10_damp_10 : decode cX10_damp 10 = .ok (.iload_n 2, 1) := by decide +kernel
theorem dX10_damp_11 : decode cX10_damp 11 = .ok (.bipush 30, 2) := by decide +kernel
theorem dX10_damp_13 : decode cX10_damp 13 = .ok (.if_icmp .le 13, 3) := by decide +kernel
theorem dX10_damp_16 : decode cX10_damp 16 = .ok (.new 43, 3) := by decide +kernel
theorem dX10_damp_19 : decode cX10_damp 19 = .ok (.dup, 1) := by decide +kernel
theorem dX10_damp_20 : decode cX10_damp 20 = .ok (.ldc 82, 2) := by decide +kernel
theorem dX10_damp_22 : decode cX10_damp 22 = .ok (.invokespecial 47, 3) := by decide +kernel
theorem dX10_damp_25 : decode cX10_damp 25 = .ok (.athrow, 1) := by decide +kernel
theorem dX10_damp_26 : decode cX10_damp 26 = .ok (.aload_n 3, 1) := by decide +kernel
theorem dX10_damp_27 : decode cX10_damp 27 = .ok (.getfield 84, 3) := by decide +kernel
theorem dX10_damp_30 : decode cX10_damp 30 = .ok (.istore 4, 2) := by decide +kernel
theorem dX10_damp_32 : decode cX10_damp 32 = .ok (.aload_n 3, 1) := by decide +kernel
theorem dX10_damp_33 : decode cX10_damp 33 = .ok (.iload_n 2, 1) := by decide +kernel
theorem dX10_damp_34 : decode cX10_damp 34 = .ok (.putfield 84, 3) := by decide +kernel
theorem dX10_damp_37 : decode cX10_damp 37 = .ok (.iload 4, 2) := by decide +kernel
theorem dX10_damp_39 : decode cX10_damp 39 = .ok (.ireturn, 1) := by decide +kernel
theorem dX10_joint_0 : decode cX10_joint 0 = .ok (.aload_n 0, 1) := by decide +kernel
theorem dX10_joint_1 : decode cX10_joint 1 = .ok (.iload_n 1, 1) := by decide +kernel
theorem dX10_joint_2 : decode cX10_joint 2 = .ok (.invokevirtual 78, 3) := by decide +kernel
theorem dX10_joint_5 : decode cX10_joint 5 = .ok (.astore_n 3, 1) := by decide +kernel
theorem dX10_joint_6 : decode cX10_joint 6 = .ok (.aload_n 3, 1) := by decide +kernel
theorem dX10_joint_7 : decode cX10_joint 7 = .ok (.iload_n 2, 1) := by decide +kernel
theorem dX10_joint_8 : decode cX10_joint 8 = .ok (.invokevirtual 87, 3) := by decide +kernel
theorem dX10_joint_11 : decode cX10_joint 11 = .ok (.astore 4, 2) := by decide +kernel
theorem dX10_joint_13 : decode cX10_joint 13 = .ok (.aload 4, 2) := by decide +kernel
theorem dX10_joint_15 : decode cX10_joint 15 = .ok (.ifnull 13, 3) := by decide +kernel
theorem dX10_joint_18 : decode cX10_joint 18 = .ok (.iload_n 2, 1) := by decide +kernel
theorem dX10_joint_19 : decode cX10_joint 19 = .ok (.aload_n 3, 1) := by decide +kernel
theorem dX10_joint_20 : decode cX10_joint 20 = .ok (.invokevirtual 91, 3) := by decide +kernel
theorem dX10_joint_23 : decode cX10_joint 23 = .ok (.iconst 1, 1) := by decide +kernel
theorem dX10_joint_24 : decode cX10_joint 24 = .ok (.isub, 1) := by decide +kernel
theorem dX10_joint_25 : decode cX10_joint 25 = .ok (.if_icmp .lt 13, 3) := by decide +kernel
theorem dX10_joint_28 : decode cX10_joint 28 = .ok (.new 94, 3) := by decide +kernel
theorem dX10_joint_31 : decode cX10_joint 31 = .ok (.dup, 1) := by decide +kernel
theorem dX10_joint_32 : decode cX10_joint 32 = .ok (.ldc 96, 2) := by decide +kernel
theorem dX10_joint_34 : decode cX10_joint 34 = .ok (.invokespecial 98, 3) := by decide +kernel
theorem dX10_joint_37 : decode cX10_joint 37 = .ok (.athrow, 1) := by decide +kernel
theorem dX10_joint_38 : decode cX10_joint 38 = .ok (.aload 4, 2) := by decide +kernel
theorem dX10_joint_40 : decode cX10_joint 40 = .ok (.getfield 99, 3) := by decide +kernel
theorem dX10_joint_43 : decode cX10_joint 43 = .ok (.istore 5, 2) := by decide +kernel
theorem dX10_joint_45 : decode cX10_joint 45 = .ok (.aload 4, 2) := by decide +kernel
theorem dX10_joint_47 : decode cX10_joint 47 = .ok (.iconst 1, 1) := by decide +kernel
theorem dX10_joint_48 : decode cX10_joint 48 = .ok (.putfield 99, 3) := by decide +kernel
theorem dX10_joint_51 : decode cX10_joint 51 = .ok (.iload 5, 2) := by decide +kernel
theorem dX10_joint_53 : decode cX10_joint 53 = .ok (.ireturn, 1) := by decide +kernel
theorem dX10_coat_0 : decode cX10_coat 0 = .ok (.aload_n 0, 1) := by decide +kernel
theorem dX10_coat_1 : decode cX10_coat 1 = .ok (.iload_n 1, 1) := by decide +kernel
theorem dX10_coat_2 : decode cX10_coat 2 = .ok (.invokevirtual 78, 3) := by decide +kernel
theorem dX10_coat_5 : decode cX10_coat 5 = .ok (.astore 6, 2) := by decide +kernel
theorem dX10_coat_7 : decode cX10_coat 7 = .ok (.aload 6, 2) := by decide +kernel
theorem dX10_coat_9 : decode cX10_coat 9 = .ok (.iload_n 2, 1) := by decide +kernel
theorem dX10_coat_10 : decode cX10_coat 10 = .ok (.iload_n 3, 1) := by decide +kernel
theorem dX10_coat_11 : decode cX10_coat 11 = .ok (.invokestatic 105, 3) := by decide +kernel
theorem dX10_coat_14 : decode cX10_coat 14 = .ok (.iload 4, 2) := by decide +kernel
theorem dX10_coat_16 : decode cX10_coat 16 = .ok (.ifCond .lt 12, 3) := by decide +kernel
theorem dX10_coat_19 : decode cX10_coat 19 = .ok (.iload 4, 2) := by decide +kernel
theorem dX10_coat_21 : decode cX10_coat 21 = .ok (.getstatic 109, 3) := by decide +kernel
theorem dX10_coat_24 : decode cX10_coat 24 = .ok (.arraylength, 1) := by decide +kernel
theorem dX10_coat_25 : decode cX10_coat 25 = .ok (.if_icmp .lt 13, 3) := by decide +kernel
theorem dX10_coat_28 : decode cX10_coat 28 = .ok (.new 43, 3) := by decide +kernel
theorem dX10_coat_31 : decode cX10_coat 31 = .ok (.dup, 1) := by decide +kernel
theorem dX10_coat_32 : decode cX10_coat 32 = .ok (.ldc 113, 2) := by decide +kernel
theorem dX10_coat_34 : decode cX10_coat 34 = .ok (.invokespecial 47, 3) := by decide +kernel
theorem dX10_coat_37 : decode cX10_coat 37 = .ok (.athrow, 1) := by decide +kernel
theorem dX10_coat_38 : decode cX10_coat 38 = .ok (.iload 5, 2) := by decide +kernel
theorem dX10_coat_40 : decode cX10_coat 40 = .ok (.iconst 1, 1) := by decide +kernel
theorem dX10_coat_41 : decode cX10_coat 41 = .ok (.if_icmp .lt 10, 3) := by decide +kernel
theorem dX10_coat_44 : decode cX10_coat 44 = .ok (.iload 5, 2) := by decide +kernel
theorem dX10_coat_46 : decode cX10_coat 46 = .ok (.bipush 20, 2) := by decide +kernel
theorem dX10_coat_48 : decode cX10_coat 48 = .ok (.if_icmp .le 13, 3) := by decide +kernel
theorem dX10_coat_51 : decode cX10_coat 51 = .ok (.new 43, 3) := by decide +kernel
theorem dX10_coat_54 : decode cX10_coat 54 = .ok (.dup, 1) := by decide +kernel
theorem dX10_coat_55 : decode cX10_coat 55 = .ok (.ldc 115, 2) := by decide +kernel
theorem dX10_coat_57 : decode cX10_coat 57 = .ok (.invokespecial 47, 3) := by decide +kernel
theorem dX10_coat_60 : decode cX10_coat 60 = .ok (.athrow, 1) := by decide +kernel
theorem dX10_coat_61 : decode cX10_coat 61 = .ok (.getstatic 109, 3) := by decide +kernel
theorem dX10_coat_64 : decode cX10_coat 64 = .ok (.iload 4, 2) := by decide +kernel
theorem dX10_coat_66 : decode cX10_coat 66 = .ok (.aaload, 1) := by decide +kernel
theorem dX10_coat_67 : decode cX10_coat 67 = .ok (.astore 7, 2) := by decide +kernel
theorem dX10_coat_69 : decode cX10_coat 69 = .ok (.aload_n 0, 1) := by decide +kernel
theorem dX10_coat_70 : decode cX10_coat 70 = .ok (.getfield 19, 3) := by decide +kernel
theorem dX10_coat_73 : decode cX10_coat 73 = .ok (.invokevirtual 117, 3) := by decide +kernel
theorem dX10_coat_76 : decode cX10_coat 76 = .ok (.ifCond .ne 15, 3) := by decide +kernel
theorem dX10_coat_79 : decode cX10_coat 79 = .ok (.aload 6, 2) := by decide +kernel
theorem dX10_coat_81 : decode cX10_coat 81 = .ok (.iload_n 2, 1) := by decide +kernel
theorem dX10_coat_82 : decode cX10_coat 82 = .ok (.iload_n 3, 1) := by decide +kernel
theorem dX10_coat_83 : decode cX10_coat 83 = .ok (.aload 7, 2) := by decide +kernel
theorem dX10_coat_85 : decode cX10_coat 85 = .ok (.invokevirtual 121, 3) := by decide +kernel
theorem dX10_coat_88 : decode cX10_coat 88 = .ok (.ifCond .ne 13, 3) := by decide +kernel
theorem dX10_coat_91 : decode cX10_coat 91 = .ok (.new 60, 3) := by decide +kernel
theorem dX10_coat_94 : decode cX10_coat 94 = .ok (.dup, 1) := by decide +kernel
theorem dX10_coat_95 : decode cX10_coat 95 = .ok (.ldc 125, 2) := by decide +kernel
theorem dX10_coat_97 : decode cX10_coat 97 = .ok (.invokespecial 64, 3) := by decide +kernel
theorem dX10_coat_100 : decode cX10_coat 100 = .ok (.athrow, 1) := by decide +kernel
theorem dX10_coat_101 : decode cX10_coat 101 = .ok (.aload_n 0, 1) := by decide +kernel
theorem dX10_coat_102 : decode cX10_coat 102 = .ok (.getfield 19, 3) := by decide +kernel
theorem dX10_coat_105 : decode cX10_coat 105 = .ok (.iload_n 1, 1) := by decide +kernel
theorem dX10_coat_106 : decode cX10_coat 106 = .ok (.iload_n 2, 1) := by decide +kernel
theorem dX10_coat_107 : decode cX10_coat 107 = .ok (.iload_n 3, 1) := by decide +kernel
theorem dX10_coat_108 : decode cX10_coat 108 = .ok (.iconst 1, 1) := by decide +kernel
theorem dX10_coat_109 : decode cX10_coat 109 = .ok (.invokevirtual 127, 3) := by decide +kernel
theorem dX10_coat_112 : decode cX10_coat 112 = .ok (.aload 6, 2) := by decide +kernel
theorem dX10_coat_114 : decode cX10_coat 114 = .ok (.iload_n 2, 1) := by decide +kernel
theorem dX10_coat_115 : decode cX10_coat 115 = .ok (.iload_n 3, 1) := by decide +kernel
theorem dX10_coat_116 : decode cX10_coat 116 = .ok (.aload 7, 2) := by decide +kernel
theorem dX10_coat_118 : decode cX10_coat 118 = .ok (.iload 5, 2) := by decide +kernel
theorem dX10_coat_120 : decode cX10_coat 120 = .ok (.aload_n 0, 1) := by decide +kernel
theorem dX10_coat_121 : decode cX10_coat 121 = .ok (.getfield 33, 3) := by decide +kernel
theorem dX10_coat_124 : decode cX10_coat 124 = .ok (.invokevirtual 131, 3) := by decide +kernel
theorem dX10_coat_127 : decode cX10_coat 127 = .ok (.ireturn, 1) := by decide +kernel
theorem dX10_scratch_0 : decode cX10_scratch 0 = .ok (.aload_n 0, 1) := by decide +kernel
theorem dX10_scratch_1 : decode cX10_scratch 1 = .ok (.iload_n 1, 1) := by decide +kernel
theorem dX10_scratch_2 : decode cX10_scratch 2 = .ok (.invokevirtual 78, 3) := by decide +kernel
theorem dX10_scratch_5 : decode cX10_scratch 5 = .ok (.astore 4, 2) := by decide +kernel
theorem dX10_scratch_7 : decode cX10_scratch 7 = .ok (.aload 4, 2) := by decide +kernel
theorem dX10_scratch_9 : decode cX10_scratch 9 = .ok (.iload_n 2, 1) := by decide +kernel
theorem dX10_scratch_10 : decode cX10_scratch 10 = .ok (.iload_n 3, 1) := by decide +kernel
theorem dX10_scratch_11 : decode cX10_scratch 11 = .ok (.invokestatic 105, 3) := by decide +kernel
theorem dX10_scratch_14 : decode cX10_scratch 14 = .ok (.aload 4, 2) := by decide +kernel
theorem dX10_scratch_16 : decode cX10_scratch 16 = .ok (.iload_n 2, 1) := by decide +kernel
theorem dX10_scratch_17 : decode cX10_scratch 17 = .ok (.iload_n 3, 1) := by decide +kernel
theorem dX10_scratch_18 : decode cX10_scratch 18 = .ok (.aload_n 0, 1) := by decide +kernel
theorem dX10_scratch_19 : decode cX10_scratch 19 = .ok (.getfield 33, 3) := by decide +kernel
theorem dX10_scratch_22 : decode cX10_scratch 22 = .ok (.invokevirtual 135, 3) := by decide +kernel
theorem dX10_scratch_25 : decode cX10_scratch 25 = .ok (.ifCond .ne 13, 3) := by decide +kernel
theorem dX10_scratch_28 : decode cX10_scratch 28 = .ok (.new 60, 3) := by decide +kernel
theorem dX10_scratch_31 : decode cX10_scratch 31 = .ok (.dup, 1) := by decide +kernel
theorem dX10_scratch_32 : decode cX10_scratch 32 = .ok (.ldc 139, 2) := by decide +kernel
theorem dX10_scratch_34 : decode cX10_scratch 34 = .ok (.invokespecial 64, 3) := by decide +kernel
theorem dX10_scratch_37 : decode cX10_scratch 37 = .ok (.athrow, 1) := by decide +kernel
theorem dX10_scratch_38 : decode cX10_scratch 38 = .ok (.aload 4, 2) := by decide +kernel
theorem dX10_scratch_40 : decode cX10_scratch 40 = .ok (.iload_n 2, 1) := by decide +kernel
theorem dX10_scratch_41 : decode cX10_scratch 41 = .ok (.iload_n 3, 1) := by decide +kernel
theorem dX10_scratch_42 : decode cX10_scratch 42 = .ok (.invokevirtual 141, 3) := by decide +kernel
theorem dX10_scratch_45 : decode cX10_scratch 45 = .ok (.ireturn, 1) := by decide +kernel
theorem dX10_strike_0 : decode cX10_strike 0 = .ok (.aload_n 0, 1) := by decide +kernel
theorem dX10_strike_1 : decode cX10_strike 1 = .ok (.iload_n 1, 1) := by decide +kernel
theorem dX10_strike_2 : decode cX10_strike 2 = .ok (.iload_n 2, 1) := by decide +kernel
theorem dX10_strike_3 : decode cX10_strike 3 = .ok (.invokevirtual 145, 3) := by decide +kernel
theorem dX10_strike_6 : decode cX10_strike 6 = .ok (.astore_n 3, 1) := by decide +kernel
theorem dX10_strike_7 : decode cX10_strike 7 = .ok (.aload_n 0, 1) := by decide +kernel
theorem dX10_strike_8 : decode cX10_strike 8 = .ok (.getfield 19, 3) := by decide +kernel
theorem dX10_strike_11 : decode cX10_strike 11 = .ok (.invokevirtual 117, 3) := by decide +kernel
theorem dX10_strike_14 : decode cX10_strike 14 = .ok (.ifCond .ne 10, 3) := by decide +kernel
theorem dX10_strike_17 : decode cX10_strike 17 = .ok (.aload_n 3, 1) := by decide +kernel
theorem dX10_strike_18 : decode cX10_strike 18 = .ok (.invokevirtual 149, 3) := by decide +kernel
theorem dX10_strike_21 : decode cX10_strike 21 = .ok (.ifCond .ne 13, 3) := by decide +kernel
theorem dX10_strike_24 : decode cX10_strike 24 = .ok (.new 60, 3) := by decide +kernel
theorem dX10_strike_27 : decode cX10_strike 27 = .ok (.dup, 1) := by decide +kernel
theorem dX10_strike_28 : decode cX10_strike 28 = .ok (.ldc 152, 2) := by decide +kernel
theorem dX10_strike_30 : decode cX10_strike 30 = .ok (.invokespecial 64, 3) := by decide +kernel
theorem dX10_strike_33 : decode cX10_strike 33 = .ok (.athrow, 1) := by decide +kernel
theorem dX10_strike_34 : decode cX10_strike 34 = .ok (.aload_n 0, 1) := by decide +kernel
theorem dX10_strike_35 : decode cX10_strike 35 = .ok (.getfield 19, 3) := by decide +kernel
theorem dX10_strike_38 : decode cX10_strike 38 = .ok (.iload_n 1, 1) := by decide +kernel
theorem dX10_strike_39 : decode cX10_strike 39 = .ok (.iload_n 2, 1) := by decide +kernel
theorem dX10_strike_40 : decode cX10_strike 40 = .ok (.iload_n 2, 1) := by decide +kernel
theorem dX10_strike_41 : decode cX10_strike 41 = .ok (.iconst (-1), 1) := by decide +kernel
theorem dX10_strike_42 : decode cX10_strike 42 = .ok (.invokevirtual 127, 3) := by decide +kernel
theorem dX10_strike_45 : decode cX10_strike 45 = .ok (.aload_n 3, 1) := by decide +kernel
theorem dX10_strike_46 : decode cX10_strike 46 = .ok (.invokevirtual 154, 3) := by decide +kernel
theorem dX10_strike_49 : decode cX10_strike 49 = .ok (.aload_n 3, 1) := by decide +kernel
theorem dX10_strike_50 : decode cX10_strike 50 = .ok (.invokevirtual 149, 3) := by decide +kernel
theorem dX10_strike_53 : decode cX10_strike 53 = .ok (.ireturn, 1) := by decide +kernel
theorem dX10_pass_0 : decode cX10_pass 0 = .ok (.iload_n 1, 1) := by decide +kernel
theorem dX10_pass_1 : decode cX10_pass 1 = .ok (.iconst 1, 1) := by decide +kernel
theorem dX10_pass_2 : decode cX10_pass 2 = .ok (.if_icmp .lt 9, 3) := by decide +kernel
theorem dX10_pass_5 : decode cX10_pass 5 = .ok (.iload_n 1, 1) := by decide +kernel
theorem dX10_pass_6 : decode cX10_pass 6 = .ok (.bipush 100, 2) := by decide +kernel
theorem dX10_pass_8 : decode cX10_pass 8 = .ok (.if_icmp .le 13, 3) := by decide +kernel
theorem dX10_pass_11 : decode cX10_pass 11 = .ok (.new 43, 3) := by decide +kernel
theorem dX10_pass_14 : decode cX10_pass 14 = .ok (.dup, 1) := by decide +kernel
theorem dX10_pass_15 : decode cX10_pass 15 = .ok (.ldc 157, 2) := by decide +kernel
theorem dX10_pass_17 : decode cX10_pass 17 = .ok (.invokespecial 47, 3) := by decide +kernel
theorem dX10_pass_20 : decode cX10_pass 20 = .ok (.athrow, 1) := by decide +kernel
theorem dX10_pass_21 : decode cX10_pass 21 = .ok (.iload_n 1, 1) := by decide +kernel
theorem dX10_pass_22 : decode cX10_pass 22 = .ok (.sipush 2000, 3) := by decide +kernel
theorem dX10_pass_25 : decode cX10_pass 25 = .ok (.aload_n 0, 1) := by decide +kernel
theorem dX10_pass_26 : decode cX10_pass 26 = .ok (.getfield 33, 3) := by decide +kernel
theorem dX10_pass_29 : decode cX10_pass 29 = .ok (.isub, 1) := by decide +kernel
theorem dX10_pass_30 : decode cX10_pass 30 = .ok (.if_icmp .le 13, 3) := by decide +kernel
theorem dX10_pass_33 : decode cX10_pass 33 = .ok (.new 60, 3) := by decide +kernel
theorem dX10_pass_36 : decode cX10_pass 36 = .ok (.dup, 1) := by decide +kernel
theorem dX10_pass_37 : decode cX10_pass 37 = .ok (.ldc 159, 2) := by decide +kernel
theorem dX10_pass_39 : decode cX10_pass 39 = .ok (.invokespecial 64, 3) := by decide +kernel
theorem dX10_pass_42 : decode cX10_pass 42 = .ok (.athrow, 1) := by decide +kernel
theorem dX10_pass_43 : decode cX10_pass 43 = .ok (.aload_n 0, 1) := by decide +kernel
theorem dX10_pass_44 : decode cX10_pass 44 = .ok (.dup, 1) := by decide +kernel
theorem dX10_pass_45 : decode cX10_pass 45 = .ok (.getfield 33, 3) := by decide +kernel
theorem dX10_pass_48 : decode cX10_pass 48 = .ok (.iload_n 1, 1) := by decide +kernel
theorem dX10_pass_49 : decode cX10_pass 49 = .ok (.iadd, 1) := by decide +kernel
theorem dX10_pass_50 : decode cX10_pass 50 = .ok (.putfield 33, 3) := by decide +kernel
theorem dX10_pass_53 : decode cX10_pass 53 = .ok (.iconst 0, 1) := by decide +kernel
theorem dX10_pass_54 : decode cX10_pass 54 = .ok (.istore_n 2, 1) := by decide +kernel
theorem dX10_pass_55 : decode cX10_pass 55 = .ok (.iconst 0, 1) := by decide +kernel
theorem dX10_pass_56 : decode cX10_pass 56 = .ok (.istore_n 3, 1) := by decide +kernel
theorem dX10_pass_57 : decode cX10_pass 57 = .ok (.iload_n 3, 1) := by decide +kernel
theorem dX10_pass_58 : decode cX10_pass 58 = .ok (.aload_n 0, 1) := by decide +kernel
theorem dX10_pass_59 : decode cX10_pass 59 = .ok (.getfield 10, 3) := by decide +kernel
theorem dX10_pass_62 : decode cX10_pass 62 = .ok (.invokevirtual 56, 3) := by decide +kernel
theorem dX10_pass_65 : decode cX10_pass 65 = .ok (.if_icmp .ge 35, 3) := by decide +kernel
theorem dX10_pass_68 : decode cX10_pass 68 = .ok (.iload_n 2, 1) := by decide +kernel
theorem dX10_pass_69 : decode cX10_pass 69 = .ok (.aload_n 0, 1) := by decide +kernel
theorem dX10_pass_70 : decode cX10_pass 70 = .ok (.getfield 10, 3) := by decide +kernel
theorem dX10_pass_73 : decode cX10_pass 73 = .ok (.iload_n 3, 1) := by decide +kernel
theorem dX10_pass_74 : decode cX10_pass 74 = .ok (.invokevirtual 161, 3) := by decide +kernel
theorem dX10_pass_77 : decode cX10_pass 77 = .ok (.checkcast 65, 3) := by decide +kernel
theorem dX10_pass_80 : decode cX10_pass 80 = .ok (.iload_n 1, 1) := by decide +kernel
theorem dX10_pass_81 : decode cX10_pass 81 = .ok (.aload_n 0, 1) := by decide +kernel
theorem dX10_pass_82 : decode cX10_pass 82 = .ok (.getfield 37, 3) := by decide +kernel
theorem dX10_pass_85 : decode cX10_pass 85 = .ok (.aload_n 0, 1) := by decide +kernel
theorem dX10_pass_86 : decode cX10_pass 86 = .ok (.getfield 40, 3) := by decide +kernel
theorem dX10_pass_89 : decode cX10_pass 89 = .ok (.invokevirtual 165, 3) := by decide +kernel
theorem dX10_pass_92 : decode cX10_pass 92 = .ok (.iadd, 1) := by decide +kernel
theorem dX10_pass_93 : decode cX10_pass 93 = .ok (.istore_n 2, 1) := by decide +kernel
theorem dX10_pass_94 : decode cX10_pass 94 = .ok (.iinc 3 1, 3) := by decide +kernel
theorem dX10_pass_97 : decode cX10_pass 97 = .ok (.goto (-40), 3) := by decide +kernel
theorem dX10_pass_100 : decode cX10_pass 100 = .ok (.iload_n 2, 1) := by decide +kernel
theorem dX10_pass_101 : decode cX10_pass 101 = .ok (.ireturn, 1) := by decide +kernel
theorem dX10_ofCoat_0 : decode cX10_ofCoat 0 = .ok (.aload_n 0, 1) := by decide +kernel
theorem dX10_ofCoat_1 : decode cX10_ofCoat 1 = .ok (.iload_n 1, 1) := by decide +kernel
theorem dX10_ofCoat_2 : decode cX10_ofCoat 2 = .ok (.iload_n 2, 1) := by decide +kernel
theorem dX10_ofCoat_3 : decode cX10_ofCoat 3 = .ok (.iload_n 3, 1) := by decide +kernel
theorem dX10_ofCoat_4 : decode cX10_ofCoat 4 = .ok (.invokevirtual 169, 3) := by decide +kernel
theorem dX10_ofCoat_7 : decode cX10_ofCoat 7 = .ok (.astore 5, 2) := by decide +kernel
theorem dX10_ofCoat_9 : decode cX10_ofCoat 9 = .ok (.iload 4, 2) := by decide +kernel
theorem dX10_ofCoat_11 : decode cX10_ofCoat 11 = .ok (.tableswitch 100 0 5 #[37, 46, 52, 58, 72, 86], 37) := by decide +kernel
theorem dX10_ofCoat_48 : decode cX10_ofCoat 48 = .ok (.aload 5, 2) := by decide +kernel
theorem dX10_ofCoat_50 : decode cX10_ofCoat 50 = .ok (.getfield 173, 3) := by decide +kernel
theorem dX10_ofCoat_53 : decode cX10_ofCoat 53 = .ok (.getfield 179, 3) := by decide +kernel
theorem dX10_ofCoat_56 : decode cX10_ofCoat 56 = .ok (.ireturn, 1) := by decide +kernel
theorem dX10_ofCoat_57 : decode cX10_ofCoat 57 = .ok (.aload 5, 2) := by decide +kernel
theorem dX10_ofCoat_59 : decode cX10_ofCoat 59 = .ok (.getfield 184, 3) := by decide +kernel
theorem dX10_ofCoat_62 : decode cX10_ofCoat 62 = .ok (.ireturn, 1) := by decide +kernel
theorem dX10_ofCoat_63 : decode cX10_ofCoat 63 = .ok (.aload 5, 2) := by decide +kernel
theorem dX10_ofCoat_65 : decode cX10_ofCoat 65 = .ok (.getfield 187, 3) := by decide +kernel
theorem dX10_ofCoat_68 : decode cX10_ofCoat 68 = .ok (.ireturn, 1) := by decide +kernel
theorem dX10_ofCoat_69 : decode cX10_ofCoat 69 = .ok (.aload 5, 2) := by decide +kernel
theorem dX10_ofCoat_71 : decode cX10_ofCoat 71 = .ok (.invokevirtual 190, 3) := by decide +kernel
theorem dX10_ofCoat_74 : decode cX10_ofCoat 74 = .ok (.ifCond .eq 7, 3) := by decide +kernel
theorem dX10_ofCoat_77 : decode cX10_ofCoat 77 = .ok (.iconst 1, 1) := by decide +kernel
theorem dX10_ofCoat_78 : decode cX10_ofCoat 78 = .ok (.goto 4, 3) := by decide +kernel
theorem dX10_ofCoat_81 : decode cX10_ofCoat 81 = .ok (.iconst 0, 1) := by decide +kernel
theorem dX10_ofCoat_82 : decode cX10_ofCoat 82 = .ok (.ireturn, 1) := by decide +kernel
theorem dX10_ofCoat_83 : decode cX10_ofCoat 83 = .ok (.aload 5, 2) := by decide +kernel
theorem dX10_ofCoat_85 : decode cX10_ofCoat 85 = .ok (.getfield 193, 3) := by decide +kernel
theorem dX10_ofCoat_88 : decode cX10_ofCoat 88 = .ok (.ifCond .eq 7, 3) := by decide +kernel
theorem dX10_ofCoat_91 : decode cX10_ofCoat 91 = .ok (.iconst 1, 1) := by decide +kernel
theorem dX10_ofCoat_92 : decode cX10_ofCoat 92 = .ok (.goto 4, 3) := by decide +kernel
theorem dX10_ofCoat_95 : decode cX10_ofCoat 95 = .ok (.iconst 0, 1) := by decide +kernel
theorem dX10_ofCoat_96 : decode cX10_ofCoat 96 = .ok (.ireturn, 1) := by decide +kernel
theorem dX10_ofCoat_97 : decode cX10_ofCoat 97 = .ok (.aload 5, 2) := by decide +kernel
theorem dX10_ofCoat_99 : decode cX10_ofCoat 99 = .ok (.getfield 196, 3) := by decide +kernel
theorem dX10_ofCoat_102 : decode cX10_ofCoat 102 = .ok (.ifCond .eq 7, 3) := by decide +kernel
theorem dX10_ofCoat_105 : decode cX10_ofCoat 105 = .ok (.iconst 1, 1) := by decide +kernel
theorem dX10_ofCoat_106 : decode cX10_ofCoat 106 = .ok (.goto 4, 3) := by decide +kernel
theorem dX10_ofCoat_109 : decode cX10_ofCoat 109 = .ok (.iconst 0, 1) := by decide +kernel
theorem dX10_ofCoat_110 : decode cX10_ofCoat 110 = .ok (.ireturn, 1) := by decide +kernel
theorem dX10_ofCoat_111 : decode cX10_ofCoat 111 = .ok (.new 43, 3) := by decide +kernel
theorem dX10_ofCoat_114 : decode cX10_ofCoat 114 = .ok (.dup, 1) := by decide +kernel
theorem dX10_ofCoat_115 : decode cX10_ofCoat 115 = .ok (.ldc 199, 2) := by decide +kernel
theorem dX10_ofCoat_117 : decode cX10_ofCoat 117 = .ok (.invokespecial 47, 3) := by decide +kernel
theorem dX10_ofCoat_120 : decode cX10_ofCoat 120 = .ok (.athrow, 1) := by decide +kernel
theorem dX10_coatsAnew_0 : decode cX10_coatsAnew 0 = .ok (.aload_n 0, 1) := by decide +kernel
theorem dX10_coatsAnew_1 : decode cX10_coatsAnew 1 = .ok (.iload_n 1, 1) := by decide +kernel
theorem dX10_coatsAnew_2 : decode cX10_coatsAnew 2 = .ok (.iload_n 2, 1) := by decide +kernel
theorem dX10_coatsAnew_3 : decode cX10_coatsAnew 3 = .ok (.invokevirtual 145, 3) := by decide +kernel
theorem dX10_coatsAnew_6 : decode cX10_coatsAnew 6 = .ok (.pop, 1) := by decide +kernel
theorem dX10_coatsAnew_7 : decode cX10_coatsAnew 7 = .ok (.aload_n 0, 1) := by decide +kernel
theorem dX10_coatsAnew_8 : decode cX10_coatsAnew 8 = .ok (.getfield 19, 3) := by decide +kernel
theorem dX10_coatsAnew_11 : decode cX10_coatsAnew 11 = .ok (.iload_n 1, 1) := by decide +kernel
theorem dX10_coatsAnew_12 : decode cX10_coatsAnew 12 = .ok (.iload_n 2, 1) := by decide +kernel
theorem dX10_coatsAnew_13 : decode cX10_coatsAnew 13 = .ok (.invokevirtual 201, 3) := by decide +kernel
theorem dX10_coatsAnew_16 : decode cX10_coatsAnew 16 = .ok (.ireturn, 1) := by decide +kernel
theorem dX10_text_0 : decode cX10_text 0 = .ok (.aload_n 0, 1) := by decide +kernel
theorem dX10_text_1 : decode cX10_text 1 = .ok (.iload_n 1, 1) := by decide +kernel
theorem dX10_text_2 : decode cX10_text 2 = .ok (.iload_n 2, 1) := by decide +kernel
theorem dX10_text_3 : decode cX10_text 3 = .ok (.iload_n 3, 1) := by decide +kernel
theorem dX10_text_4 : decode cX10_text 4 = .ok (.invokevirtual 169, 3) := by decide +kernel
theorem dX10_text_7 : decode cX10_text 7 = .ok (.astore 5, 2) := by decide +kernel
theorem dX10_text_9 : decode cX10_text 9 = .ok (.iload 4, 2) := by decide +kernel
theorem dX10_text_11 : decode cX10_text 11 = .ok (.ifCond .ge 13, 3) := by decide +kernel
theorem dX10_text_14 : decode cX10_text 14 = .ok (.new 94, 3) := by decide +kernel
theorem dX10_text_17 : decode cX10_text 17 = .ok (.dup, 1) := by decide +kernel
theorem dX10_text_18 : decode cX10_text 18 = .ok (.ldc 203, 2) := by decide +kernel
theorem dX10_text_20 : decode cX10_text 20 = .ok (.invokespecial 98, 3) := by decide +kernel
theorem dX10_text_23 : decode cX10_text 23 = .ok (.athrow, 1) := by decide +kernel
theorem dX10_text_24 : decode cX10_text 24 = .ok (.aload 5, 2) := by decide +kernel
theorem dX10_text_26 : decode cX10_text 26 = .ok (.invokevirtual 205, 3) := by decide +kernel
theorem dX10_text_29 : decode cX10_text 29 = .ok (.astore 6, 2) := by decide +kernel
theorem dX10_text_31 : decode cX10_text 31 = .ok (.iload 4, 2) := by decide +kernel
theorem dX10_text_33 : decode cX10_text 33 = .ok (.aload 6, 2) := by decide +kernel
theorem dX10_text_35 : decode cX10_text 35 = .ok (.invokevirtual 209, 3) := by decide +kernel
theorem dX10_text_38 : decode cX10_text 38 = .ok (.if_icmp .ge 13, 3) := by decide +kernel
theorem dX10_text_41 : decode cX10_text 41 = .ok (.aload 6, 2) := by decide +kernel
theorem dX10_text_43 : decode cX10_text 43 = .ok (.iload 4, 2) := by decide +kernel
theorem dX10_text_45 : decode cX10_text 45 = .ok (.invokevirtual 214, 3) := by decide +kernel
theorem dX10_text_48 : decode cX10_text 48 = .ok (.goto 4, 3) := by decide +kernel
theorem dX10_text_51 : decode cX10_text 51 = .ok (.iconst 0, 1) := by decide +kernel
theorem dX10_text_52 : decode cX10_text 52 = .ok (.ireturn, 1) := by decide +kernel
theorem dX10_profile_0 : decode cX10_profile 0 = .ok (.iload_n 1, 1) := by decide +kernel
theorem dX10_profile_1 : decode cX10_profile 1 = .ok (.invokestatic 218, 3) := by decide +kernel
theorem dX10_profile_4 : decode cX10_profile 4 = .ok (.aload_n 0, 1) := by decide +kernel
theorem dX10_profile_5 : decode cX10_profile 5 = .ok (.getfield 23, 3) := by decide +kernel
theorem dX10_profile_8 : decode cX10_profile 8 = .ok (.invokevirtual 56, 3) := by decide +kernel
theorem dX10_profile_11 : decode cX10_profile 11 = .ok (.bipush 10, 2) := by decide +kernel
theorem dX10_profile_13 : decode cX10_profile 13 = .ok (.if_icmp .lt 13, 3) := by decide +kernel
theorem dX10_profile_16 : decode cX10_profile 16 = .ok (.new 60, 3) := by decide +kernel
theorem dX10_profile_19 : decode cX10_profile 19 = .ok (.dup, 1) := by decide +kernel
theorem dX10_profile_20 : decode cX10_profile 20 = .ok (.ldc 222, 2) := by decide +kernel
theorem dX10_profile_22 : decode cX10_profile 22 = .ok (.invokespecial 64, 3) := by decide +kernel
theorem dX10_profile_25 : decode cX10_profile 25 = .ok (.athrow, 1) := by decide +kernel
theorem dX10_profile_26 : decode cX10_profile 26 = .ok (.aload_n 0, 1) := by decide +kernel
theorem dX10_profile_27 : decode cX10_profile 27 = .ok (.getfield 23, 3) := by decide +kernel
theorem dX10_profile_30 : decode cX10_profile 30 = .ok (.new 224, 3) := by decide +kernel
theorem dX10_profile_33 : decode cX10_profile 33 = .ok (.dup, 1) := by decide +kernel
theorem dX10_profile_34 : decode cX10_profile 34 = .ok (.iload_n 1, 1) := by decide +kernel
theorem dX10_profile_35 : decode cX10_profile 35 = .ok (.invokespecial 226, 3) := by decide +kernel
theorem dX10_profile_38 : decode cX10_profile 38 = .ok (.invokevirtual 70, 3) := by decide +kernel
theorem dX10_profile_41 : decode cX10_profile 41 = .ok (.pop, 1) := by decide +kernel
theorem dX10_profile_42 : decode cX10_profile 42 = .ok (.aload_n 0, 1) := by decide +kernel
theorem dX10_profile_43 : decode cX10_profile 43 = .ok (.getfield 23, 3) := by decide +kernel
theorem dX10_profile_46 : decode cX10_profile 46 = .ok (.invokevirtual 56, 3) := by decide +kernel
theorem dX10_profile_49 : decode cX10_profile 49 = .ok (.iconst 1, 1) := by decide +kernel
theorem dX10_profile_50 : decode cX10_profile 50 = .ok (.isub, 1) := by decide +kernel
theorem dX10_profile_51 : decode cX10_profile 51 = .ok (.ireturn, 1) := by decide +kernel
theorem dX10_depth_0 : decode cX10_depth 0 = .ok (.aload_n 0, 1) := by decide +kernel
theorem dX10_depth_1 : decode cX10_depth 1 = .ok (.iload_n 1, 1) := by decide +kernel
theorem dX10_depth_2 : decode cX10_depth 2 = .ok (.invokevirtual 228, 3) := by decide +kernel
theorem dX10_depth_5 : decode cX10_depth 5 = .ok (.astore_n 3, 1) := by decide +kernel
theorem dX10_depth_6 : decode cX10_depth 6 = .ok (.iload_n 2, 1) := by decide +kernel
theorem dX10_depth_7 : decode cX10_depth 7 = .ok (.invokestatic 218, 3) := by decide +kernel
theorem dX10_depth_10 : decode cX10_depth 10 = .ok (.aload_n 3, 1) := by decide +kernel
theorem dX10_depth_11 : decode cX10_depth 11 = .ok (.invokevirtual 232, 3) := by decide +kernel
theorem dX10_depth_14 : decode cX10_depth 14 = .ok (.ifCond .eq 13, 3) := by decide +kernel
theorem dX10_depth_17 : decode cX10_depth 17 = .ok (.new 60, 3) := by decide +kernel
theorem dX10_depth_20 : decode cX10_depth 20 = .ok (.dup, 1) := by decide +kernel
theorem dX10_depth_21 : decode cX10_depth 21 = .ok (.ldc 233, 2) := by decide +kernel
theorem dX10_depth_23 : decode cX10_depth 23 = .ok (.invokespecial 64, 3) := by decide +kernel
theorem dX10_depth_26 : decode cX10_depth 26 = .ok (.athrow, 1) := by decide +kernel
theorem dX10_depth_27 : decode cX10_depth 27 = .ok (.aload_n 3, 1) := by decide +kernel
theorem dX10_depth_28 : decode cX10_depth 28 = .ok (.iload_n 2, 1) := by decide +kernel
theorem dX10_depth_29 : decode cX10_depth 29 = .ok (.invokevirtual 235, 3) := by decide +kernel
theorem dX10_depth_32 : decode cX10_depth 32 = .ok (.aload_n 3, 1) := by decide +kernel
theorem dX10_depth_33 : decode cX10_depth 33 = .ok (.invokevirtual 238, 3) := by decide +kernel
theorem dX10_depth_36 : decode cX10_depth 36 = .ok (.ireturn, 1) := by decide +kernel
theorem dX10_mitre_0 : decode cX10_mitre 0 = .ok (.aload_n 0, 1) := by decide +kernel
theorem dX10_mitre_1 : decode cX10_mitre 1 = .ok (.iload_n 1, 1) := by decide +kernel
theorem dX10_mitre_2 : decode cX10_mitre 2 = .ok (.invokevirtual 228, 3) := by decide +kernel
theorem dX10_mitre_5 : decode cX10_mitre 5 = .ok (.astore_n 3, 1) := by decide +kernel
theorem dX10_mitre_6 : decode cX10_mitre 6 = .ok (.aload_n 0, 1) := by decide +kernel
theorem dX10_mitre_7 : decode cX10_mitre 7 = .ok (.iload_n 2, 1) := by decide +kernel
theorem dX10_mitre_8 : decode cX10_mitre 8 = .ok (.invokevirtual 228, 3) := by decide +kernel
theorem dX10_mitre_11 : decode cX10_mitre 11 = .ok (.astore 4, 2) := by decide +kernel
theorem dX10_mitre_13 : decode cX10_mitre 13 = .ok (.aload_n 3, 1) := by decide +kernel
theorem dX10_mitre_14 : decode cX10_mitre 14 = .ok (.invokevirtual 238, 3) := by decide +kernel
theorem dX10_mitre_17 : decode cX10_mitre 17 = .ok (.aload 4, 2) := by decide +kernel
theorem dX10_mitre_19 : decode cX10_mitre 19 = .ok (.invokevirtual 238, 3) := by decide +kernel
theorem dX10_mitre_22 : decode cX10_mitre 22 = .ok (.invokestatic 241, 3) := by decide +kernel
theorem dX10_mitre_25 : decode cX10_mitre 25 = .ok (.istore 5, 2) := by decide +kernel
theorem dX10_mitre_27 : decode cX10_mitre 27 = .ok (.ldc 246, 2) := by decide +kernel
theorem dX10_mitre_29 : decode cX10_mitre 29 = .ok (.fstore 6, 2) := by decide +kernel
theorem dX10_mitre_31 : decode cX10_mitre 31 = .ok (.ldc 247, 2) := by decide +kernel
theorem dX10_mitre_33 : decode cX10_mitre 33 = .ok (.fstore 7, 2) := by decide +kernel
theorem dX10_mitre_35 : decode cX10_mitre 35 = .ok (.iconst 0, 1) := by decide +kernel
theorem dX10_mitre_36 : decode cX10_mitre 36 = .ok (.istore 8, 2) := by decide +kernel
theorem dX10_mitre_38 : decode cX10_mitre 38 = .ok (.iload 8, 2) := by decide +kernel
theorem dX10_mitre_40 : decode cX10_mitre 40 = .ok (.iload 5, 2) := by decide +kernel
theorem dX10_mitre_42 : decode cX10_mitre 42 = .ok (.if_icmp .ge 68, 3) := by decide +kernel
theorem dX10_mitre_45 : decode cX10_mitre 45 = .ok (.aload_n 3, 1) := by decide +kernel
theorem dX10_mitre_46 : decode cX10_mitre 46 = .ok (.iload 8, 2) := by decide +kernel
theorem dX10_mitre_48 : decode cX10_mitre 48 = .ok (.invokevirtual 248, 3) := by decide +kernel
theorem dX10_mitre_51 : decode cX10_mitre 51 = .ok (.i2f, 1) := by decide +kernel
theorem dX10_mitre_52 : decode cX10_mitre 52 = .ok (.aload 4, 2) := by decide +kernel
theorem dX10_mitre_54 : decode cX10_mitre 54 = .ok (.iload 8, 2) := by decide +kernel
theorem dX10_mitre_56 : decode cX10_mitre 56 = .ok (.invokevirtual 248, 3) := by decide +kernel
theorem dX10_mitre_59 : decode cX10_mitre 59 = .ok (.i2f, 1) := by decide +kernel
theorem dX10_mitre_60 : decode cX10_mitre 60 = .ok (.invokestatic 252, 3) := by decide +kernel
theorem dX10_mitre_63 : decode cX10_mitre 63 = .ok (.fstore 9, 2) := by decide +kernel
theorem dX10_mitre_65 : decode cX10_mitre 65 = .ok (.fload 9, 2) := by decide +kernel
theorem dX10_mitre_67 : decode cX10_mitre 67 = .ok (.ldc 246, 2) := by decide +kernel
theorem dX10_mitre_69 : decode cX10_mitre 69 = .ok (.fcmp .l, 1) := by decide +kernel
theorem dX10_mitre_70 : decode cX10_mitre 70 = .ok (.ifCond .le 11, 3) := by decide +kernel
theorem dX10_mitre_73 : decode cX10_mitre 73 = .ok (.fload 9, 2) := by decide +kernel
theorem dX10_mitre_75 : decode cX10_mitre 75 = .ok (.ldc 246, 2) := by decide +kernel
theorem dX10_mitre_77 : decode cX10_mitre 77 = .ok (.fsub, 1) := by decide +kernel
theorem dX10_mitre_78 : decode cX10_mitre 78 = .ok (.goto 8, 3) := by decide +kernel
theorem dX10_mitre_81 : decode cX10_mitre 81 = .ok (.ldc 246, 2) := by decide +kernel
theorem dX10_mitre_83 : decode cX10_mitre 83 = .ok (.fload 9, 2) := by decide +kernel
theorem dX10_mitre_85 : decode cX10_mitre 85 = .ok (.fsub, 1) := by decide +kernel
theorem dX10_mitre_86 : decode cX10_mitre 86 = .ok (.fstore 10, 2) := by decide +kernel
theorem dX10_mitre_88 : decode cX10_mitre 88 = .ok (.fload 10, 2) := by decide +kernel
theorem dX10_mitre_90 : decode cX10_mitre 90 = .ok (.fload 7, 2) := by decide +kernel
theorem dX10_mitre_92 : decode cX10_mitre 92 = .ok (.fcmp .l, 1) := by decide +kernel
theorem dX10_mitre_93 : decode cX10_mitre 93 = .ok (.ifCond .le 11, 3) := by decide +kernel
theorem dX10_mitre_96 : decode cX10_mitre 96 = .ok (.fload 10, 2) := by decide +kernel
theorem dX10_mitre_98 : decode cX10_mitre 98 = .ok (.fstore 7, 2) := by decide +kernel
theorem dX10_mitre_100 : decode cX10_mitre 100 = .ok (.fload 9, 2) := by decide +kernel
theorem dX10_mitre_102 : decode cX10_mitre 102 = .ok (.fstore 6, 2) := by decide +kernel
theorem dX10_mitre_104 : decode cX10_mitre 104 = .ok (.iinc 8 1, 3) := by decide +kernel
theorem dX10_mitre_107 : decode cX10_mitre 107 = .ok (.goto (-69), 3) := by decide +kernel
theorem dX10_mitre_110 : decode cX10_mitre 110 = .ok (.fload 6, 2) := by decide +kernel
theorem dX10_mitre_112 : decode cX10_mitre 112 = .ok (.freturn, 1) := by decide +kernel
theorem dX10_fits_0 : decode cX10_fits 0 = .ok (.iload_n 1, 1) := by decide +kernel
theorem dX10_fits_1 : decode cX10_fits 1 = .ok (.iload_n 2, 1) := by decide +kernel
theorem dX10_fits_2 : decode cX10_fits 2 = .ok (.invokestatic 256, 3) := by decide +kernel
theorem dX10_fits_5 : decode cX10_fits 5 = .ok (.iload_n 1, 1) := by decide +kernel
theorem dX10_fits_6 : decode cX10_fits 6 = .ok (.iload_n 2, 1) := by decide +kernel
theorem dX10_fits_7 : decode cX10_fits 7 = .ok (.invokestatic 260, 3) := by decide +kernel
theorem dX10_fits_10 : decode cX10_fits 10 = .ok (.ireturn, 1) := by decide +kernel
theorem dX10_step_0 : decode cX10_step 0 = .ok (.iload_n 1, 1) := by decide +kernel
theorem dX10_step_1 : decode cX10_step 1 = .ok (.iload_n 2, 1) := by decide +kernel
theorem dX10_step_2 : decode cX10_step 2 = .ok (.invokestatic 256, 3) := by decide +kernel
theorem dX10_step_5 : decode cX10_step 5 = .ok (.iconst 1, 1) := by decide +kernel
theorem dX10_step_6 : decode cX10_step 6 = .ok (.iload_n 1, 1) := by decide +kernel
theorem dX10_step_7 : decode cX10_step 7 = .ok (.iload_n 2, 1) := by decide +kernel
theorem dX10_step_8 : decode cX10_step 8 = .ok (.invokestatic 260, 3) := by decide +kernel
theorem dX10_step_11 : decode cX10_step 11 = .ok (.invokestatic 241, 3) := by decide +kernel
theorem dX10_step_14 : decode cX10_step 14 = .ok (.istore_n 3, 1) := by decide +kernel
theorem dX10_step_15 : decode cX10_step 15 = .ok (.iload_n 1, 1) := by decide +kernel
theorem dX10_step_16 : decode cX10_step 16 = .ok (.i2f, 1) := by decide +kernel
theorem dX10_step_17 : decode cX10_step 17 = .ok (.iload_n 3, 1) := by decide +kernel
theorem dX10_step_18 : decode cX10_step 18 = .ok (.i2f, 1) := by decide +kernel
theorem dX10_step_19 : decode cX10_step 19 = .ok (.fdiv, 1) := by decide +kernel
theorem dX10_step_20 : decode cX10_step 20 = .ok (.freturn, 1) := by decide +kernel
theorem dX10_cut_0 : decode cX10_cut 0 = .ok (.iload_n 1, 1) := by decide +kernel
theorem dX10_cut_1 : decode cX10_cut 1 = .ok (.sipush 2000, 3) := by decide +kernel
theorem dX10_cut_4 : decode cX10_cut 4 = .ok (.if_icmp .lt 10, 3) := by decide +kernel
theorem dX10_cut_7 : decode cX10_cut 7 = .ok (.iload_n 1, 1) := by decide +kernel
theorem dX10_cut_8 : decode cX10_cut 8 = .ok (.ldc_w 263, 3) := by decide +kernel
theorem dX10_cut_11 : decode cX10_cut 11 = .ok (.if_icmp .le 14, 3) := by decide +kernel
theorem dX10_cut_14 : decode cX10_cut 14 = .ok (.new 43, 3) := by decide +kernel
theorem dX10_cut_17 : decode cX10_cut 17 = .ok (.dup, 1) := by decide +kernel
theorem dX10_cut_18 : decode cX10_cut 18 = .ok (.ldc_w 264, 3) := by decide +kernel
theorem dX10_cut_21 : decode cX10_cut 21 = .ok (.invokespecial 47, 3) := by decide +kernel
theorem dX10_cut_24 : decode cX10_cut 24 = .ok (.athrow, 1) := by decide +kernel
theorem dX10_cut_25 : decode cX10_cut 25 = .ok (.iload_n 2, 1) := by decide +kernel
theorem dX10_cut_26 : decode cX10_cut 26 = .ok (.iconst 1, 1) := by decide +kernel
theorem dX10_cut_27 : decode cX10_cut 27 = .ok (.if_icmp .lt 10, 3) := by decide +kernel
theorem dX10_cut_30 : decode cX10_cut 30 = .ok (.iload_n 2, 1) := by decide +kernel
theorem dX10_cut_31 : decode cX10_cut 31 = .ok (.sipush 1000, 3) := by decide +kernel
theorem dX10_cut_34 : decode cX10_cut 34 = .ok (.if_icmp .le 14, 3) := by decide +kernel
theorem dX10_cut_37 : decode cX10_cut 37 = .ok (.new 43, 3) := by decide +kernel
theorem dX10_cut_40 : decode cX10_cut 40 = .ok (.dup, 1) := by decide +kernel
theorem dX10_cut_41 : decode cX10_cut 41 = .ok (.ldc_w 266, 3) := by decide +kernel
theorem dX10_cut_44 : decode cX10_cut 44 = .ok (.invokespecial 47, 3) := by decide +kernel
theorem dX10_cut_47 : decode cX10_cut 47 = .ok (.athrow, 1) := by decide +kernel
theorem dX10_cut_48 : decode cX10_cut 48 = .ok (.iload_n 3, 1) := by decide +kernel
theorem dX10_cut_49 : decode cX10_cut 49 = .ok (.ifCond .lt 9, 3) := by decide +kernel
theorem dX10_cut_52 : decode cX10_cut 52 = .ok (.iload_n 3, 1) := by decide +kernel
theorem dX10_cut_53 : decode cX10_cut 53 = .ok (.bipush 20, 2) := by decide +kernel
theorem dX10_cut_55 : decode cX10_cut 55 = .ok (.if_icmp .le 14, 3) := by decide +kernel
theorem dX10_cut_58 : decode cX10_cut 58 = .ok (.new 43, 3) := by decide +kernel
theorem dX10_cut_61 : decode cX10_cut 61 = .ok (.dup, 1) := by decide +kernel
theorem dX10_cut_62 : decode cX10_cut 62 = .ok (.ldc_w 268, 3) := by decide +kernel
theorem dX10_cut_65 : decode cX10_cut 65 = .ok (.invokespecial 47, 3) := by decide +kernel
theorem dX10_cut_68 : decode cX10_cut 68 = .ok (.athrow, 1) := by decide +kernel
theorem dX10_cut_69 : decode cX10_cut 69 = .ok (.iload_n 1, 1) := by decide +kernel
theorem dX10_cut_70 : decode cX10_cut 70 = .ok (.iload_n 2, 1) := by decide +kernel
theorem dX10_cut_71 : decode cX10_cut 71 = .ok (.isub, 1) := by decide +kernel
theorem dX10_cut_72 : decode cX10_cut 72 = .ok (.iconst 2, 1) := by decide +kernel
theorem dX10_cut_73 : decode cX10_cut 73 = .ok (.idiv, 1) := by decide +kernel
theorem dX10_cut_74 : decode cX10_cut 74 = .ok (.iload_n 3, 1) := by decide +kernel
theorem dX10_cut_75 : decode cX10_cut 75 = .ok (.isub, 1) := by decide +kernel
theorem dX10_cut_76 : decode cX10_cut 76 = .ok (.iload_n 2, 1) := by decide +kernel
theorem dX10_cut_77 : decode cX10_cut 77 = .ok (.iload_n 3, 1) := by decide +kernel
theorem dX10_cut_78 : decode cX10_cut 78 = .ok (.invokestatic 270, 3) := by decide +kernel
theorem dX10_cut_81 : decode cX10_cut 81 = .ok (.istore 4, 2) := by decide +kernel
theorem dX10_cut_83 : decode cX10_cut 83 = .ok (.iload_n 1, 1) := by decide +kernel
theorem dX10_cut_84 : decode cX10_cut 84 = .ok (.iload_n 3, 1) := by decide +kernel
theorem dX10_cut_85 : decode cX10_cut 85 = .ok (.isub, 1) := by decide +kernel
theorem dX10_cut_86 : decode cX10_cut 86 = .ok (.iconst 2, 1) := by decide +kernel
theorem dX10_cut_87 : decode cX10_cut 87 = .ok (.idiv, 1) := by decide +kernel
theorem dX10_cut_88 : decode cX10_cut 88 = .ok (.iload_n 2, 1) := by decide +kernel
theorem dX10_cut_89 : decode cX10_cut 89 = .ok (.iload_n 3, 1) := by decide +kernel
theorem dX10_cut_90 : decode cX10_cut 90 = .ok (.invokestatic 270, 3) := by decide +kernel
theorem dX10_cut_93 : decode cX10_cut 93 = .ok (.istore 5, 2) := by decide +kernel
theorem dX10_cut_95 : decode cX10_cut 95 = .ok (.iload 4, 2) := by decide +kernel
theorem dX10_cut_97 : decode cX10_cut 97 = .ok (.ifCond .eq 8, 3) := by decide +kernel
theorem dX10_cut_100 : decode cX10_cut 100 = .ok (.iload 5, 2) := by decide +kernel
theorem dX10_cut_102 : decode cX10_cut 102 = .ok (.ifCond .ne 5, 3) := by decide +kernel
theorem dX10_cut_105 : decode cX10_cut 105 = .ok (.iconst 0, 1) := by decide +kernel
theorem dX10_cut_106 : decode cX10_cut 106 = .ok (.ireturn, 1) := by decide +kernel
theorem dX10_cut_107 : decode cX10_cut 107 = .ok (.iload 4, 2) := by decide +kernel
theorem dX10_cut_109 : decode cX10_cut 109 = .ok (.iload 5, 2) := by decide +kernel
theorem dX10_cut_111 : decode cX10_cut 111 = .ok (.invokestatic 241, 3) := by decide +kernel
theorem dX10_cut_114 : decode cX10_cut 114 = .ok (.ireturn, 1) := by decide +kernel
theorem dX10_window_0 : decode cX10_window 0 = .ok (.iload_n 1, 1) := by decide +kernel
theorem dX10_window_1 : decode cX10_window 1 = .ok (.invokestatic 273, 3) := by decide +kernel
theorem dX10_window_4 : decode cX10_window 4 = .ok (.iload_n 2, 1) := by decide +kernel
theorem dX10_window_5 : decode cX10_window 5 = .ok (.ifCond .lt 8, 3) := by decide +kernel
theorem dX10_window_8 : decode cX10_window 8 = .ok (.iload_n 2, 1) := by decide +kernel
theorem dX10_window_9 : decode cX10_window 9 = .ok (.iconst 3, 1) := by decide +kernel
theorem dX10_window_10 : decode cX10_window 10 = .ok (.if_icmp .le 13, 3) := by decide +kernel
theorem dX10_window_13 : decode cX10_window 13 = .ok (.new 43, 3) := by decide +kernel
theorem dX10_window_16 : decode cX10_window 16 = .ok (.dup, 1) := by decide +kernel
theorem dX10_window_17 : decode cX10_window 17 = .ok (.ldc 157, 2) := by decide +kernel
theorem dX10_window_19 : decode cX10_window 19 = .ok (.invokespecial 47, 3) := by decide +kernel
theorem dX10_window_22 : decode cX10_window 22 = .ok (.athrow, 1) := by decide +kernel
theorem dX10_window_23 : decode cX10_window 23 = .ok (.aload_n 0, 1) := by decide +kernel
theorem dX10_window_24 : decode cX10_window 24 = .ok (.getfield 29, 3) := by decide +kernel
theorem dX10_window_27 : decode cX10_window 27 = .ok (.iload_n 1, 1) := by decide +kernel
theorem dX10_window_28 : decode cX10_window 28 = .ok (.invokevirtual 276, 3) := by decide +kernel
theorem dX10_window_31 : decode cX10_window 31 = .ok (.istore_n 3, 1) := by decide +kernel
theorem dX10_window_32 : decode cX10_window 32 = .ok (.aload_n 0, 1) := by decide +kernel
theorem dX10_window_33 : decode cX10_window 33 = .ok (.getfield 29, 3) := by decide +kernel
theorem dX10_window_36 : decode cX10_window 36 = .ok (.iload_n 1, 1) := by decide +kernel
theorem dX10_window_37 : decode cX10_window 37 = .ok (.iload_n 2, 1) := by decide +kernel
theorem dX10_window_38 : decode cX10_window 38 = .ok (.invokevirtual 279, 3) := by decide +kernel
theorem dX10_window_41 : decode cX10_window 41 = .ok (.iload_n 3, 1) := by decide +kernel
theorem dX10_window_42 : decode cX10_window 42 = .ok (.ireturn, 1) := by decide +kernel
theorem dX10_patch_0 : decode cX10_patch 0 = .ok (.lload_n 1, 1) := by decide +kernel
theorem dX10_patch_1 : decode cX10_patch 1 = .ok (.ldc2_w 282, 3) := by decide +kernel
theorem dX10_patch_4 : decode cX10_patch 4 = .ok (.land, 1) := by decide +kernel
theorem dX10_patch_5 : decode cX10_patch 5 = .ok (.lconst 0, 1) := by decide +kernel
theorem dX10_patch_6 : decode cX10_patch 6 = .ok (.lcmp, 1) := by decide +kernel
theorem dX10_patch_7 : decode cX10_patch 7 = .ok (.ifCond .ne 14, 3) := by decide +kernel
theorem dX10_patch_10 : decode cX10_patch 10 = .ok (.new 43, 3) := by decide +kernel
theorem dX10_patch_13 : decode cX10_patch 13 = .ok (.dup, 1) := by decide +kernel
theorem dX10_patch_14 : decode cX10_patch 14 = .ok (.ldc_w 284, 3) := by decide +kernel
theorem dX10_patch_17 : decode cX10_patch 17 = .ok (.invokespecial 47, 3) := by decide +kernel
theorem dX10_patch_20 : decode cX10_patch 20 = .ok (.athrow, 1) := by decide +kernel
theorem dX10_patch_21 : decode cX10_patch 21 = .ok (.aload_n 0, 1) := by decide +kernel
theorem dX10_patch_22 : decode cX10_patch 22 = .ok (.getfield 29, 3) := by decide +kernel
theorem dX10_patch_25 : decode cX10_patch 25 = .ok (.invokevirtual 286, 3) := by decide +kernel
theorem dX10_patch_28 : decode cX10_patch 28 = .ok (.bipush 30, 2) := by decide +kernel
theorem dX10_patch_30 : decode cX10_patch 30 = .ok (.if_icmp .lt 14, 3) := by decide +kernel
theorem dX10_patch_33 : decode cX10_patch 33 = .ok (.new 60, 3) := by decide +kernel
theorem dX10_patch_36 : decode cX10_patch 36 = .ok (.dup, 1) := by decide +kernel
theorem dX10_patch_37 : decode cX10_patch 37 = .ok (.ldc_w 289, 3) := by decide +kernel
theorem dX10_patch_40 : decode cX10_patch 40 = .ok (.invokespecial 64, 3) := by decide +kernel
theorem dX10_patch_43 : decode cX10_patch 43 = .ok (.athrow, 1) := by decide +kernel
theorem dX10_patch_44 : decode cX10_patch 44 = .ok (.aload_n 0, 1) := by decide +kernel
theorem dX10_patch_45 : decode cX10_patch 45 = .ok (.getfield 29, 3) := by decide +kernel
theorem dX10_patch_48 : decode cX10_patch 48 = .ok (.lload_n 1, 1) := by decide +kernel
theorem dX10_patch_49 : decode cX10_patch 49 = .ok (.ldc2_w 282, 3) := by decide +kernel
theorem dX10_patch_52 : decode cX10_patch 52 = .ok (.land, 1) := by decide +kernel
theorem dX10_patch_53 : decode cX10_patch 53 = .ok (.aload_n 0, 1) := by decide +kernel
theorem dX10_patch_54 : decode cX10_patch 54 = .ok (.getfield 33, 3) := by decide +kernel
theorem dX10_patch_57 : decode cX10_patch 57 = .ok (.invokevirtual 291, 3) := by decide +kernel
theorem dX10_patch_60 : decode cX10_patch 60 = .ok (.aload_n 0, 1) := by decide +kernel
theorem dX10_patch_61 : decode cX10_patch 61 = .ok (.getfield 29, 3) := by decide +kernel
theorem dX10_patch_64 : decode cX10_patch 64 = .ok (.invokevirtual 286, 3) := by decide +kernel
theorem dX10_patch_67 : decode cX10_patch 67 = .ok (.iconst 1, 1) := by decide +kernel
theorem dX10_patch_68 : decode cX10_patch 68 = .ok (.isub, 1) := by decide +kernel
theorem dX10_patch_69 : decode cX10_patch 69 = .ok (.ireturn, 1) := by decide +kernel
theorem dX10_paint_0 : decode cX10_paint 0 = .ok (.aload_n 0, 1) := by decide +kernel
theorem dX10_paint_1 : decode cX10_paint 1 = .ok (.iload_n 1, 1) := by decide +kernel
theorem dX10_paint_2 : decode cX10_paint 2 = .ok (.invokevirtual 295, 3) := by decide +kernel
theorem dX10_paint_5 : decode cX10_paint 5 = .ok (.astore 6, 2) := by decide +kernel
theorem dX10_paint_7 : decode cX10_paint 7 = .ok (.iload_n 2, 1) := by decide +kernel
theorem dX10_paint_8 : decode cX10_paint 8 = .ok (.invokestatic 273, 3) := by decide +kernel
theorem dX10_paint_11 : decode cX10_paint 11 = .ok (.aload_n 0, 1) := by decide +kernel
theorem dX10_paint_12 : decode cX10_paint 12 = .ok (.getfield 33, 3) := by decide +kernel
theorem dX10_paint_15 : decode cX10_paint 15 = .ok (.aload 6, 2) := by decide +kernel
theorem dX10_paint_17 : decode cX10_paint 17 = .ok (.getfield 299, 3) := by decide +kernel
theorem dX10_paint_20 : decode cX10_paint 20 = .ok (.isub, 1) := by decide +kernel
theorem dX10_paint_21 : decode cX10_paint 21 = .ok (.aload_n 0, 1) := by decide +kernel
theorem dX10_paint_22 : decode cX10_paint 22 = .ok (.getfield 29, 3) := by decide +kernel
theorem dX10_paint_25 : decode cX10_paint 25 = .ok (.iload_n 2, 1) := by decide +kernel
theorem dX10_paint_26 : decode cX10_paint 26 = .ok (.invokevirtual 276, 3) := by decide +kernel
theorem dX10_paint_29 : decode cX10_paint 29 = .ok (.if_icmp .le 7, 3) := by decide +kernel
theorem dX10_paint_32 : decode cX10_paint 32 = .ok (.iconst 1, 1) := by decide +kernel
theorem dX10_paint_33 : decode cX10_paint 33 = .ok (.goto 4, 3) := by decide +kernel
theorem dX10_paint_36 : decode cX10_paint 36 = .ok (.iconst 0, 1) := by decide +kernel
theorem dX10_paint_37 : decode cX10_paint 37 = .ok (.istore 7, 2) := by decide +kernel
theorem dX10_paint_39 : decode cX10_paint 39 = .ok (.iload 7, 2) := by decide +kernel
theorem dX10_paint_41 : decode cX10_paint 41 = .ok (.iload 5, 2) := by decide +kernel
theorem dX10_paint_43 : decode cX10_paint 43 = .ok (.if_icmp .eq 14, 3) := by decide +kernel
theorem dX10_paint_46 : decode cX10_paint 46 = .ok (.new 60, 3) := by decide +kernel
theorem dX10_paint_49 : decode cX10_paint 49 = .ok (.dup, 1) := by decide +kernel
theorem dX10_paint_50 : decode cX10_paint 50 = .ok (.ldc_w 302, 3) := by decide +kernel
theorem dX10_paint_53 : decode cX10_paint 53 = .ok (.invokespecial 64, 3) := by decide +kernel
theorem dX10_paint_56 : decode cX10_paint 56 = .ok (.athrow, 1) := by decide +kernel
theorem dX10_paint_57 : decode cX10_paint 57 = .ok (.lload_n 3, 1) := by decide +kernel
theorem dX10_paint_58 : decode cX10_paint 58 = .ok (.aload 6, 2) := by decide +kernel
theorem dX10_paint_60 : decode cX10_paint 60 = .ok (.getfield 304, 3) := by decide +kernel
theorem dX10_paint_63 : decode cX10_paint 63 = .ok (.land, 1) := by decide +kernel
theorem dX10_paint_64 : decode cX10_paint 64 = .ok (.lstore 8, 2) := by decide +kernel
theorem dX10_paint_66 : decode cX10_paint 66 = .ok (.aload_n 0, 1) := by decide +kernel
theorem dX10_paint_67 : decode cX10_paint 67 = .ok (.getfield 29, 3) := by decide +kernel
theorem dX10_paint_70 : decode cX10_paint 70 = .ok (.lload 8, 2) := by decide +kernel
theorem dX10_paint_72 : decode cX10_paint 72 = .ok (.iload_n 2, 1) := by decide +kernel
theorem dX10_paint_73 : decode cX10_paint 73 = .ok (.iload 5, 2) := by decide +kernel
theorem dX10_paint_75 : decode cX10_paint 75 = .ok (.invokevirtual 308, 3) := by decide +kernel
theorem dX10_paint_78 : decode cX10_paint 78 = .ok (.lload 8, 2) := by decide +kernel
theorem dX10_paint_80 : decode cX10_paint 80 = .ok (.invokestatic 312, 3) := by decide +kernel
theorem dX10_paint_83 : decode cX10_paint 83 = .ok (.ireturn, 1) := by decide +kernel
theorem dX10_ofCell_0 : decode cX10_ofCell 0 = .ok (.iload_n 1, 1) := by decide +kernel
theorem dX10_ofCell_1 : decode cX10_ofCell 1 = .ok (.ifCond .lt 9, 3) := by decide +kernel
theorem dX10_ofCell_4 : decode cX10_ofCell 4 = .ok (.iload_n 1, 1) := by decide +kernel
theorem dX10_ofCell_5 : decode cX10_ofCell 5 = .ok (.bipush 48, 2) := by decide +kernel
theorem dX10_ofCell_7 : decode cX10_ofCell 7 = .ok (.if_icmp .lt 14, 3) := by decide +kernel
theorem dX10_ofCell_10 : decode cX10_ofCell 10 = .ok (.new 94, 3) := by decide +kernel
theorem dX10_ofCell_13 : decode cX10_ofCell 13 = .ok (.dup, 1) := by decide +kernel
theorem dX10_ofCell_14 : decode cX10_ofCell 14 = .ok (.ldc_w 318, 3) := by decide +kernel
theorem dX10_ofCell_17 : decode cX10_ofCell 17 = .ok (.invokespecial 98, 3) := by decide +kernel
theorem dX10_ofCell_20 : decode cX10_ofCell 20 = .ok (.athrow, 1) := by decide +kernel
theorem dX10_ofCell_21 : decode cX10_ofCell 21 = .ok (.iload_n 2, 1) := by decide +kernel
theorem dX10_ofCell_22 : decode cX10_ofCell 22 = .ok (.tableswitch 61 0 2 #[26, 35, 44], 26) := by decide +kernel
theorem dX10_ofCell_48 : decode cX10_ofCell 48 = .ok (.aload_n 0, 1) := by decide +kernel
theorem dX10_ofCell_49 : decode cX10_ofCell 49 = .ok (.getfield 29, 3) := by decide +kernel
theorem dX10_ofCell_52 : decode cX10_ofCell 52 = .ok (.iload_n 1, 1) := by decide +kernel
theorem dX10_ofCell_53 : decode cX10_ofCell 53 = .ok (.invokevirtual 320, 3) := by decide +kernel
theorem dX10_ofCell_56 : decode cX10_ofCell 56 = .ok (.ireturn, 1) := by decide +kernel
theorem dX10_ofCell_57 : decode cX10_ofCell 57 = .ok (.aload_n 0, 1) := by decide +kernel
theorem dX10_ofCell_58 : decode cX10_ofCell 58 = .ok (.getfield 29, 3) := by decide +kernel
theorem dX10_ofCell_61 : decode cX10_ofCell 61 = .ok (.iload_n 1, 1) := by decide +kernel
theorem dX10_ofCell_62 : decode cX10_ofCell 62 = .ok (.invokevirtual 323, 3) := by decide +kernel
theorem dX10_ofCell_65 : decode cX10_ofCell 65 = .ok (.ireturn, 1) := by decide +kernel
theorem dX10_ofCell_66 : decode cX10_ofCell 66 = .ok (.aload_n 0, 1) := by decide +kernel
theorem dX10_ofCell_67 : decode cX10_ofCell 67 = .ok (.getfield 29, 3) := by decide +kernel
theorem dX10_ofCell_70 : decode cX10_ofCell 70 = .ok (.iload_n 1, 1) := by decide +kernel
theorem dX10_ofCell_71 : decode cX10_ofCell 71 = .ok (.invokevirtual 326, 3) := by decide +kernel
theorem dX10_ofCell_74 : decode cX10_ofCell 74 = .ok (.ifCond .eq 7, 3) := by decide +kernel
theorem dX10_ofCell_77 : decode cX10_ofCell 77 = .ok (.iconst 1, 1) := by decide +kernel
theorem dX10_ofCell_78 : decode cX10_ofCell 78 = .ok (.goto 4, 3) := by decide +kernel
theorem dX10_ofCell_81 : decode cX10_ofCell 81 = .ok (.iconst 0, 1) := by decide +kernel
theorem dX10_ofCell_82 : decode cX10_ofCell 82 = .ok (.ireturn, 1) := by decide +kernel
theorem dX10_ofCell_83 : decode cX10_ofCell 83 = .ok (.new 43, 3) := by decide +kernel
theorem dX10_ofCell_86 : decode cX10_ofCell 86 = .ok (.dup, 1) := by decide +kernel
theorem dX10_ofCell_87 : decode cX10_ofCell 87 = .ok (.ldc 199, 2) := by decide +kernel
theorem dX10_ofCell_89 : decode cX10_ofCell 89 = .ok (.invokespecial 47, 3) := by decide +kernel
theorem dX10_ofCell_92 : decode cX10_ofCell 92 = .ok (.athrow, 1) := by decide +kernel
theorem dX10_over_0 : decode cX10_over 0 = .ok (.aload_n 0, 1) := by decide +kernel
theorem dX10_over_1 : decode cX10_over 1 = .ok (.iload_n 1, 1) := by decide +kernel
theorem dX10_over_2 : decode cX10_over 2 = .ok (.invokevirtual 295, 3) := by decide +kernel
theorem dX10_over_5 : decode cX10_over 5 = .ok (.astore_n 2, 1) := by decide +kernel
theorem dX10_over_6 : decode cX10_over 6 = .ok (.aload_n 0, 1) := by decide +kernel
theorem dX10_over_7 : decode cX10_over 7 = .ok (.getfield 29, 3) := by decide +kernel
theorem dX10_over_10 : decode cX10_over 10 = .ok (.iload_n 1, 1) := by decide +kernel
theorem dX10_over_11 : decode cX10_over 11 = .ok (.aload_n 2, 1) := by decide +kernel
theorem dX10_over_12 : decode cX10_over 12 = .ok (.getfield 304, 3) := by decide +kernel
theorem dX10_over_15 : decode cX10_over 15 = .ok (.invokestatic 330, 3) := by decide +kernel
theorem dX10_over_18 : decode cX10_over 18 = .ok (.invokevirtual 334, 3) := by decide +kernel
theorem dX10_over_21 : decode cX10_over 21 = .ok (.ireturn, 1) := by decide +kernel
theorem dX10_tells_0 : decode cX10_tells 0 = .ok (.iload_n 1, 1) := by decide +kernel
theorem dX10_tells_1 : decode cX10_tells 1 = .ok (.invokestatic 338, 3) := by decide +kernel
theorem dX10_tells_4 : decode cX10_tells 4 = .ok (.ifCond .eq 33, 3) := by decide +kernel
theorem dX10_tells_7 : decode cX10_tells 7 = .ok (.iload_n 2, 1) := by decide +kernel
theorem dX10_tells_8 : decode cX10_tells 8 = .ok (.invokestatic 338, 3) := by decide +kernel
theorem dX10_tells_11 : decode cX10_tells 11 = .ok (.ifCond .eq 26, 3) := by decide +kernel
theorem dX10_tells_14 : decode cX10_tells 14 = .ok (.iload_n 3, 1) := by decide +kernel
theorem dX10_tells_15 : decode cX10_tells 15 = .ok (.invokestatic 338, 3) := by decide +kernel
theorem dX10_tells_18 : decode cX10_tells 18 = .ok (.ifCond .eq 19, 3) := by decide +kernel
theorem dX10_tells_21 : decode cX10_tells 21 = .ok (.iload 4, 2) := by decide +kernel
theorem dX10_tells_23 : decode cX10_tells 23 = .ok (.invokestatic 338, 3) := by decide +kernel
theorem dX10_tells_26 : decode cX10_tells 26 = .ok (.ifCond .eq 11, 3) := by decide +kernel
theorem dX10_tells_29 : decode cX10_tells 29 = .ok (.iload 5, 2) := by decide +kernel
theorem dX10_tells_31 : decode cX10_tells 31 = .ok (.invokestatic 338, 3) := by decide +kernel
theorem dX10_tells_34 : decode cX10_tells 34 = .ok (.ifCond .ne 14, 3) := by decide +kernel
theorem dX10_tells_37 : decode cX10_tells 37 = .ok (.new 43, 3) := by decide +kernel
theorem dX10_tells_40 : decode cX10_tells 40 = .ok (.dup, 1) := by decide +kernel
theorem dX10_tells_41 : decode cX10_tells 41 = .ok (.ldc_w 341, 3) := by decide +kernel
theorem dX10_tells_44 : decode cX10_tells 44 = .ok (.invokespecial 47, 3) := by decide +kernel
theorem dX10_tells_47 : decode cX10_tells 47 = .ok (.athrow, 1) := by decide +kernel
theorem dX10_tells_48 : decode cX10_tells 48 = .ok (.iload 6, 2) := by decide +kernel
theorem dX10_tells_50 : decode cX10_tells 50 = .ok (.invokestatic 338, 3) := by decide +kernel
theorem dX10_tells_53 : decode cX10_tells 53 = .ok (.ifCond .ne 14, 3) := by decide +kernel
theorem dX10_tells_56 : decode cX10_tells 56 = .ok (.new 43, 3) := by decide +kernel
theorem dX10_tells_59 : decode cX10_tells 59 = .ok (.dup, 1) := by decide +kernel
theorem dX10_tells_60 : decode cX10_tells 60 = .ok (.ldc_w 343, 3) := by decide +kernel
theorem dX10_tells_63 : decode cX10_tells 63 = .ok (.invokespecial 47, 3) := by decide +kernel
theorem dX10_tells_66 : decode cX10_tells 66 = .ok (.athrow, 1) := by decide +kernel
theorem dX10_tells_67 : decode cX10_tells 67 = .ok (.iload_n 1, 1) := by decide +kernel
theorem dX10_tells_68 : decode cX10_tells 68 = .ok (.iload_n 2, 1) := by decide +kernel
theorem dX10_tells_69 : decode cX10_tells 69 = .ok (.if_icmp .lt 25, 3) := by decide +kernel
theorem dX10_tells_72 : decode cX10_tells 72 = .ok (.iload_n 2, 1) := by decide +kernel
theorem dX10_tells_73 : decode cX10_tells 73 = .ok (.iload_n 3, 1) := by decide +kernel
theorem dX10_tells_74 : decode cX10_tells 74 = .ok (.if_icmp .lt 20, 3) := by decide +kernel
theorem dX10_tells_77 : decode cX10_tells 77 = .ok (.iload_n 3, 1) := by decide +kernel
theorem dX10_tells_78 : decode cX10_tells 78 = .ok (.iload 4, 2) := by decide +kernel
theorem dX10_tells_80 : decode cX10_tells 80 = .ok (.if_icmp .lt 14, 3) := by decide +kernel
theorem dX10_tells_83 : decode cX10_tells 83 = .ok (.iload 4, 2) := by decide +kernel
theorem dX10_tells_85 : decode cX10_tells 85 = .ok (.iload 5, 2) := by decide +kernel
theorem dX10_tells_87 : decode cX10_tells 87 = .ok (.if_icmp .lt 7, 3) := by decide +kernel
theorem dX10_tells_90 : decode cX10_tells 90 = .ok (.iconst 1, 1) := by decide +kernel
theorem dX10_tells_91 : decode cX10_tells 91 = .ok (.goto 4, 3) := by decide +kernel
theorem dX10_tells_94 : decode cX10_tells 94 = .ok (.iconst 0, 1) := by decide +kernel
theorem dX10_tells_95 : decode cX10_tells 95 = .ok (.istore 7, 2) := by decide +kernel
theorem dX10_tells_97 : decode cX10_tells 97 = .ok (.iload 7, 2) := by decide +kernel
theorem dX10_tells_99 : decode cX10_tells 99 = .ok (.ifCond .eq 21, 3) := by decide +kernel
theorem dX10_tells_102 : decode cX10_tells 102 = .ok (.iload_n 1, 1) := by decide +kernel
theorem dX10_tells_103 : decode cX10_tells 103 = .ok (.iload 5, 2) := by decide +kernel
theorem dX10_tells_105 : decode cX10_tells 105 = .ok (.isub, 1) := by decide +kernel
theorem dX10_tells_106 : decode cX10_tells 106 = .ok (.bipush 20, 2) := by decide +kernel
theorem dX10_tells_108 : decode cX10_tells 108 = .ok (.if_icmp .lt 12, 3) := by decide +kernel
theorem dX10_tells_111 : decode cX10_tells 111 = .ok (.iload 6, 2) := by decide +kernel
theorem dX10_tells_113 : decode cX10_tells 113 = .ok (.bipush 10, 2) := by decide +kernel
theorem dX10_tells_115 : decode cX10_tells 115 = .ok (.if_icmp .lt 5, 3) := by decide +kernel
theorem dX10_tells_118 : decode cX10_tells 118 = .ok (.iconst 1, 1) := by decide +kernel
theorem dX10_tells_119 : decode cX10_tells 119 = .ok (.ireturn, 1) := by decide +kernel
theorem dX10_tells_120 : decode cX10_tells 120 = .ok (.iload_n 2, 1) := by decide +kernel
theorem dX10_tells_121 : decode cX10_tells 121 = .ok (.iload_n 3, 1) := by decide +kernel
theorem dX10_tells_122 : decode cX10_tells 122 = .ok (.iload 4, 2) := by decide +kernel
theorem dX10_tells_124 : decode cX10_tells 124 = .ok (.invokestatic 241, 3) := by decide +kernel
theorem dX10_tells_127 : decode cX10_tells 127 = .ok (.invokestatic 241, 3) := by decide +kernel
theorem dX10_tells_130 : decode cX10_tells 130 = .ok (.istore 8, 2) := by decide +kernel
theorem dX10_tells_132 : decode cX10_tells 132 = .ok (.iload 8, 2) := by decide +kernel
theorem dX10_tells_134 : decode cX10_tells 134 = .ok (.iload_n 1, 1) := by decide +kernel
theorem dX10_tells_135 : decode cX10_tells 135 = .ok (.iload 5, 2) := by decide +kernel
theorem dX10_tells_137 : decode cX10_tells 137 = .ok (.invokestatic 241, 3) := by decide +kernel
theorem dX10_tells_140 : decode cX10_tells 140 = .ok (.isub, 1) := by decide +kernel
theorem dX10_tells_141 : decode cX10_tells 141 = .ok (.bipush 10, 2) := by decide +kernel
theorem dX10_tells_143 : decode cX10_tells 143 = .ok (.if_icmp .lt 5, 3) := by decide +kernel
theorem dX10_tells_146 : decode cX10_tells 146 = .ok (.iconst 2, 1) := by decide +kernel
theorem dX10_tells_147 : decode cX10_tells 147 = .ok (.ireturn, 1) := by decide +kernel
theorem dX10_tells_148 : decode cX10_tells 148 = .ok (.iload 5, 2) := by decide +kernel
theorem dX10_tells_150 : decode cX10_tells 150 = .ok (.iload_n 1, 1) := by decide +kernel
theorem dX10_tells_151 : decode cX10_tells 151 = .ok (.iload 8, 2) := by decide +kernel
theorem dX10_tells_153 : decode cX10_tells 153 = .ok (.invokestatic 241, 3) := by decide +kernel
theorem dX10_tells_156 : decode cX10_tells 156 = .ok (.if_icmp .le 7, 3) := by decide +kernel
theorem dX10_tells_159 : decode cX10_tells 159 = .ok (.iconst 3, 1) := by decide +kernel
theorem dX10_tells_160 : decode cX10_tells 160 = .ok (.goto 4, 3) := by decide +kernel
theorem dX10_tells_163 : decode cX10_tells 163 = .ok (.iconst 0, 1) := by decide +kernel
theorem dX10_tells_164 : decode cX10_tells 164 = .ok (.ireturn, 1) := by decide +kernel
theorem dX10_pins_0 : decode cX10_pins 0 = .ok (.lload_n 1, 1) := by decide +kernel
theorem dX10_pins_1 : decode cX10_pins 1 = .ok (.ldc2_w 282, 3) := by decide +kernel
theorem dX10_pins_4 : decode cX10_pins 4 = .ok (.land, 1) := by decide +kernel
theorem dX10_pins_5 : decode cX10_pins 5 = .ok (.lstore_n 3, 1) := by decide +kernel
theorem dX10_pins_6 : decode cX10_pins 6 = .ok (.iconst 0, 1) := by decide +kernel
theorem dX10_pins_7 : decode cX10_pins 7 = .ok (.istore 5, 2) := by decide +kernel
theorem dX10_pins_9 : decode cX10_pins 9 = .ok (.iconst 0, 1) := by decide +kernel
theorem dX10_pins_10 : decode cX10_pins 10 = .ok (.istore 6, 2) := by decide +kernel
theorem dX10_pins_12 : decode cX10_pins 12 = .ok (.iload 6, 2) := by decide +kernel
theorem dX10_pins_14 : decode cX10_pins 14 = .ok (.bipush 48, 2) := by decide +kernel
theorem dX10_pins_16 : decode cX10_pins 16 = .ok (.if_icmp .ge 42, 3) := by decide +kernel
theorem dX10_pins_19 : decode cX10_pins 19 = .ok (.iload 6, 2) := by decide +kernel
theorem dX10_pins_21 : decode cX10_pins 21 = .ok (.lload_n 3, 1) := by decide +kernel
theorem dX10_pins_22 : decode cX10_pins 22 = .ok (.invokestatic 345, 3) := by decide +kernel
theorem dX10_pins_25 : decode cX10_pins 25 = .ok (.lstore 7, 2) := by decide +kernel
theorem dX10_pins_27 : decode cX10_pins 27 = .ok (.iload 5, 2) := by decide +kernel
theorem dX10_pins_29 : decode cX10_pins 29 = .ok (.lload 7, 2) := by decide +kernel
theorem dX10_pins_31 : decode cX10_pins 31 = .ok (.invokestatic 312, 3) := by decide +kernel
theorem dX10_pins_34 : decode cX10_pins 34 = .ok (.iconst 4, 1) := by decide +kernel
theorem dX10_pins_35 : decode cX10_pins 35 = .ok (.iadd, 1) := by decide +kernel
theorem dX10_pins_36 : decode cX10_pins 36 = .ok (.iconst 1, 1) := by decide +kernel
theorem dX10_pins_37 : decode cX10_pins 37 = .ok (.isub, 1) := by decide +kernel
theorem dX10_pins_38 : decode cX10_pins 38 = .ok (.iconst 4, 1) := by decide +kernel
theorem dX10_pins_39 : decode cX10_pins 39 = .ok (.idiv, 1) := by decide +kernel
theorem dX10_pins_40 : decode cX10_pins 40 = .ok (.iadd, 1) := by decide +kernel
theorem dX10_pins_41 : decode cX10_pins 41 = .ok (.istore 5, 2) := by decide +kernel
theorem dX10_pins_43 : decode cX10_pins 43 = .ok (.lload_n 3, 1) := by decide +kernel
theorem dX10_pins_44 : decode cX10_pins 44 = .ok (.lload 7, 2) := by decide +kernel
theorem dX10_pins_46 : decode cX10_pins 46 = .ok (.ldc2_w 349, 3) := by decide +kernel
theorem dX10_pins_49 : decode cX10_pins 49 = .ok (.lxor, 1) := by decide +kernel
theorem dX10_pins_50 : decode cX10_pins 50 = .ok (.land, 1) := by decide +kernel
theorem dX10_pins_51 : decode cX10_pins 51 = .ok (.lstore_n 3, 1) := by decide +kernel
theorem dX10_pins_52 : decode cX10_pins 52 = .ok (.iinc 6 1, 3) := by decide +kernel
theorem dX10_pins_55 : decode cX10_pins 55 = .ok (.goto (-43), 3) := by decide +kernel
theorem dX10_pins_58 : decode cX10_pins 58 = .ok (.iload 5, 2) := by decide +kernel
theorem dX10_pins_60 : decode cX10_pins 60 = .ok (.ireturn, 1) := by decide +kernel
theorem dX10_bill_0 : decode cX10_bill 0 = .ok (.aload_n 0, 1) := by decide +kernel
theorem dX10_bill_1 : decode cX10_bill 1 = .ok (.iload_n 1, 1) := by decide +kernel
theorem dX10_bill_2 : decode cX10_bill 2 = .ok (.invokevirtual 78, 3) := by decide +kernel
theorem dX10_bill_5 : decode cX10_bill 5 = .ok (.astore 4, 2) := by decide +kernel
theorem dX10_bill_7 : decode cX10_bill 7 = .ok (.iload_n 2, 1) := by decide +kernel
theorem dX10_bill_8 : decode cX10_bill 8 = .ok (.ifCond .lt 8, 3) := by decide +kernel
theorem dX10_bill_11 : decode cX10_bill 11 = .ok (.iload_n 2, 1) := by decide +kernel
theorem dX10_bill_12 : decode cX10_bill 12 = .ok (.iconst 5, 1) := by decide +kernel
theorem dX10_bill_13 : decode cX10_bill 13 = .ok (.if_icmp .le 14, 3) := by decide +kernel
theorem dX10_bill_16 : decode cX10_bill 16 = .ok (.new 43, 3) := by decide +kernel
theorem dX10_bill_19 : decode cX10_bill 19 = .ok (.dup, 1) := by decide +kernel
theorem dX10_bill_20 : decode cX10_bill 20 = .ok (.ldc_w 351, 3) := by decide +kernel
theorem dX10_bill_23 : decode cX10_bill 23 = .ok (.invokespecial 47, 3) := by decide +kernel
theorem dX10_bill_26 : decode cX10_bill 26 = .ok (.athrow, 1) := by decide +kernel
theorem dX10_bill_27 : decode cX10_bill 27 = .ok (.iload_n 3, 1) := by decide +kernel
theorem dX10_bill_28 : decode cX10_bill 28 = .ok (.iconst 1, 1) := by decide +kernel
theorem dX10_bill_29 : decode cX10_bill 29 = .ok (.if_icmp .lt 9, 3) := by decide +kernel
theorem dX10_bill_32 : decode cX10_bill 32 = .ok (.iload_n 3, 1) := by decide +kernel
theorem dX10_bill_33 : decode cX10_bill 33 = .ok (.bipush 100, 2) := by decide +kernel
theorem dX10_bill_35 : decode cX10_bill 35 = .ok (.if_icmp .le 14, 3) := by decide +kernel
theorem dX10_bill_38 : decode cX10_bill 38 = .ok (.new 43, 3) := by decide +kernel
theorem dX10_bill_41 : decode cX10_bill 41 = .ok (.dup, 1) := by decide +kernel
theorem dX10_bill_42 : decode cX10_bill 42 = .ok (.ldc_w 353, 3) := by decide +kernel
theorem dX10_bill_45 : decode cX10_bill 45 = .ok (.invokespecial 47, 3) := by decide +kernel
theorem dX10_bill_48 : decode cX10_bill 48 = .ok (.athrow, 1) := by decide +kernel
theorem dX10_bill_49 : decode cX10_bill 49 = .ok (.aload 4, 2) := by decide +kernel
theorem dX10_bill_51 : decode cX10_bill 51 = .ok (.iload_n 2, 1) := by decide +kernel
theorem dX10_bill_52 : decode cX10_bill 52 = .ok (.invokevirtual 355, 3) := by decide +kernel
theorem dX10_bill_55 : decode cX10_bill 55 = .ok (.iload_n 3, 1) := by decide +kernel
theorem dX10_bill_56 : decode cX10_bill 56 = .ok (.imul, 1) := by decide +kernel
theorem dX10_bill_57 : decode cX10_bill 57 = .ok (.istore 5, 2) := by decide +kernel
theorem dX10_bill_59 : decode cX10_bill 59 = .ok (.iload_n 2, 1) := by decide +kernel
theorem dX10_bill_60 : decode cX10_bill 60 = .ok (.iconst 5, 1) := by decide +kernel
theorem dX10_bill_61 : decode cX10_bill 61 = .ok (.if_icmp .ne 13, 3) := by decide +kernel
theorem dX10_bill_64 : decode cX10_bill 64 = .ok (.iload 5, 2) := by decide +kernel
theorem dX10_bill_66 : decode cX10_bill 66 = .ok (.iload 5, 2) := by decide +kernel
theorem dX10_bill_68 : decode cX10_bill 68 = .ok (.iconst 2, 1) := by decide +kernel
theorem dX10_bill_69 : decode cX10_bill 69 = .ok (.idiv, 1) := by decide +kernel
theorem dX10_bill_70 : decode cX10_bill 70 = .ok (.iadd, 1) := by decide +kernel
theorem dX10_bill_71 : decode cX10_bill 71 = .ok (.goto 5, 3) := by decide +kernel
theorem dX10_bill_74 : decode cX10_bill 74 = .ok (.iload 5, 2) := by decide +kernel
theorem dX10_bill_76 : decode cX10_bill 76 = .ok (.ireturn, 1) := by decide +kernel
theorem dX10_wallNumbered_0 : decode cX10_wallNumbered 0 = .ok (.iload_n 1, 1) := by decide +kernel
theorem dX10_wallNumbered_1 : decode cX10_wallNumbered 1 = .ok (.ifCond .lt 14, 3) := by decide +kernel
theorem dX10_wallNumbered_4 : decode cX10_wallNumbered 4 = .ok (.iload_n 1, 1) := by decide +kernel
theorem dX10_wallNumbered_5 : decode cX10_wallNumbered 5 = .ok (.aload_n 0, 1) := by decide +kernel
theorem dX10_wallNumbered_6 : decode cX10_wallNumbered 6 = .ok (.getfield 10, 3) := by decide +kernel
theorem dX10_wallNumbered_9 : decode cX10_wallNumbered 9 = .ok (.invokevirtual 56, 3) := by decide +kernel
theorem dX10_wallNumbered_12 : decode cX10_wallNumbered 12 = .ok (.if_icmp .lt 14, 3) := by decide +kernel
theorem dX10_wallNumbered_15 : decode cX10_wallNumbered 15 = .ok (.new 94, 3) := by decide +kernel
theorem dX10_wallNumbered_18 : decode cX10_wallNumbered 18 = .ok (.dup, 1) := by decide +kernel
theorem dX10_wallNumbered_19 : decode cX10_wallNumbered 19 = .ok (.ldc_w 358, 3) := by decide +kernel
theorem dX10_wallNumbered_22 : decode cX10_wallNumbered 22 = .ok (.invokespecial 98, 3) := by decide +kernel
theorem dX10_wallNumbered_25 : decode cX10_wallNumbered 25 = .ok (.athrow, 1) := by decide +kernel
theorem dX10_wallNumbered_26 : decode cX10_wallNumbered 26 = .ok (.aload_n 0, 1) := by decide +kernel
theorem dX10_wallNumbered_27 : decode cX10_wallNumbered 27 = .ok (.getfield 10, 3) := by decide +kernel
theorem dX10_wallNumbered_30 : decode cX10_wallNumbered 30 = .ok (.iload_n 1, 1) := by decide +kernel
theorem dX10_wallNumbered_31 : decode cX10_wallNumbered 31 = .ok (.invokevirtual 161, 3) := by decide +kernel
theorem dX10_wallNumbered_34 : decode cX10_wallNumbered 34 = .ok (.checkcast 65, 3) := by decide +kernel
theorem dX10_wallNumbered_37 : decode cX10_wallNumbered 37 = .ok (.areturn, 1) := by decide +kernel
theorem dX10_stripNumbered_0 : decode cX10_stripNumbered 0 = .ok (.aload_n 0, 1) := by decide +kernel
theorem dX10_stripNumbered_1 : decode cX10_stripNumbered 1 = .ok (.iload_n 1, 1) := by decide +kernel
theorem dX10_stripNumbered_2 : decode cX10_stripNumbered 2 = .ok (.invokevirtual 78, 3) := by decide +kernel
theorem dX10_stripNumbered_5 : decode cX10_stripNumbered 5 = .ok (.iload_n 2, 1) := by decide +kernel
theorem dX10_stripNumbered_6 : decode cX10_stripNumbered 6 = .ok (.invokevirtual 87, 3) := by decide +kernel
theorem dX10_stripNumbered_9 : decode cX10_stripNumbered 9 = .ok (.astore_n 3, 1) := by decide +kernel
theorem dX10_stripNumbered_10 : decode cX10_stripNumbered 10 = .ok (.aload_n 3, 1) := by decide +kernel
theorem dX10_stripNumbered_11 : decode cX10_stripNumbered 11 = .ok (.ifnonnull 14, 3) := by decide +kernel
theorem dX10_stripNumbered_14 : decode cX10_stripNumbered 14 = .ok (.new 94, 3) := by decide +kernel
theorem dX10_stripNumbered_17 : decode cX10_stripNumbered 17 = .ok (.dup, 1) := by decide +kernel
theorem dX10_stripNumbered_18 : decode cX10_stripNumbered 18 = .ok (.ldc_w 360, 3) := by decide +kernel
theorem dX10_stripNumbered_21 : decode cX10_stripNumbered 21 = .ok (.invokespecial 98, 3) := by decide +kernel
theorem dX10_stripNumbered_24 : decode cX10_stripNumbered 24 = .ok (.athrow, 1) := by decide +kernel
theorem dX10_stripNumbered_25 : decode cX10_stripNumbered 25 = .ok (.aload_n 3, 1) := by decide +kernel
theorem dX10_stripNumbered_26 : decode cX10_stripNumbered 26 = .ok (.areturn, 1) := by decide +kernel
theorem dX10_coatNumbered_0 : decode cX10_coatNumbered 0 = .ok (.aload_n 0, 1) := by decide +kernel
theorem dX10_coatNumbered_1 : decode cX10_coatNumbered 1 = .ok (.iload_n 1, 1) := by decide +kernel
theorem dX10_coatNumbered_2 : decode cX10_coatNumbered 2 = .ok (.iload_n 2, 1) := by decide +kernel
theorem dX10_coatNumbered_3 : decode cX10_coatNumbered 3 = .ok (.invokevirtual 145, 3) := by decide +kernel
theorem dX10_coatNumbered_6 : decode cX10_coatNumbered 6 = .ok (.iload_n 3, 1) := by decide +kernel
theorem dX10_coatNumbered_7 : decode cX10_coatNumbered 7 = .ok (.invokevirtual 362, 3) := by decide +kernel
theorem dX10_coatNumbered_10 : decode cX10_coatNumbered 10 = .ok (.astore 4, 2) := by decide +kernel
theorem dX10_coatNumbered_12 : decode cX10_coatNumbered 12 = .ok (.aload 4, 2) := by decide +kernel
theorem dX10_coatNumbered_14 : decode cX10_coatNumbered 14 = .ok (.ifnonnull 14, 3) := by decide +kernel
theorem dX10_coatNumbered_17 : decode cX10_coatNumbered 17 = .ok (.new 94, 3) := by decide +kernel
theorem dX10_coatNumbered_20 : decode cX10_coatNumbered 20 = .ok (.dup, 1) := by decide +kernel
theorem dX10_coatNumbered_21 : decode cX10_coatNumbered 21 = .ok (.ldc_w 366, 3) := by decide +kernel
theorem dX10_coatNumbered_24 : decode cX10_coatNumbered 24 = .ok (.invokespecial 98, 3) := by decide +kernel
theorem dX10_coatNumbered_27 : decode cX10_coatNumbered 27 = .ok (.athrow, 1) := by decide +kernel
theorem dX10_coatNumbered_28 : decode cX10_coatNumbered 28 = .ok (.aload 4, 2) := by decide +kernel
theorem dX10_coatNumbered_30 : decode cX10_coatNumbered 30 = .ok (.areturn, 1) := by decide +kernel
theorem dX10_testStrips_0 : decode cX10_testStrips 0 = .ok (.aload_n 0, 1) := by decide +kernel
theorem dX10_testStrips_1 : decode cX10_testStrips 1 = .ok (.iload_n 1, 1) := by decide +kernel
theorem dX10_testStrips_2 : decode cX10_testStrips 2 = .ok (.invokevirtual 87, 3) := by decide +kernel
theorem dX10_testStrips_5 : decode cX10_testStrips 5 = .ok (.ifnull 11, 3) := by decide +kernel
theorem dX10_testStrips_8 : decode cX10_testStrips 8 = .ok (.aload_n 0, 1) := by decide +kernel
theorem dX10_testStrips_9 : decode cX10_testStrips 9 = .ok (.iload_n 2, 1) := by decide +kernel
theorem dX10_testStrips_10 : decode cX10_testStrips 10 = .ok (.invokevirtual 87, 3) := by decide +kernel
theorem dX10_testStrips_13 : decode cX10_testStrips 13 = .ok (.ifnonnull 14, 3) := by decide +kernel
theorem dX10_testStrips_16 : decode cX10_testStrips 16 = .ok (.new 94, 3) := by decide +kernel
theorem dX10_testStrips_19 : decode cX10_testStrips 19 = .ok (.dup, 1) := by decide +kernel
theorem dX10_testStrips_20 : decode cX10_testStrips 20 = .ok (.ldc_w 360, 3) := by decide +kernel
theorem dX10_testStrips_23 : decode cX10_testStrips 23 = .ok (.invokespecial 98, 3) := by decide +kernel
theorem dX10_testStrips_26 : decode cX10_testStrips 26 = .ok (.athrow, 1) := by decide +kernel
theorem dX10_testStrips_27 : decode cX10_testStrips 27 = .ok (.iload_n 2, 1) := by decide +kernel
theorem dX10_testStrips_28 : decode cX10_testStrips 28 = .ok (.iload_n 1, 1) := by decide +kernel
theorem dX10_testStrips_29 : decode cX10_testStrips 29 = .ok (.if_icmp .ge 14, 3) := by decide +kernel
theorem dX10_testStrips_32 : decode cX10_testStrips 32 = .ok (.new 43, 3) := by decide +kernel
theorem dX10_testStrips_35 : decode cX10_testStrips 35 = .ok (.dup, 1) := by decide +kernel
theorem dX10_testStrips_36 : decode cX10_testStrips 36 = .ok (.ldc_w 368, 3) := by decide +kernel
theorem dX10_testStrips_39 : decode cX10_testStrips 39 = .ok (.invokespecial 47, 3) := by decide +kernel
theorem dX10_testStrips_42 : decode cX10_testStrips 42 = .ok (.athrow, 1) := by decide +kernel
theorem dX10_testStrips_43 : decode cX10_testStrips 43 = .ok (.return_, 1) := by decide +kernel
theorem dX10_profileNumbered_0 : decode cX10_profileNumbered 0 = .ok (.iload_n 1, 1) := by decide +kernel
theorem dX10_profileNumbered_1 : decode cX10_profileNumbered 1 = .ok (.ifCond .lt 14, 3) := by decide +kernel
theorem dX10_profileNumbered_4 : decode cX10_profileNumbered 4 = .ok (.iload_n 1, 1) := by decide +kernel
theorem dX10_profileNumbered_5 : decode cX10_profileNumbered 5 = .ok (.aload_n 0, 1) := by decide +kernel
theorem dX10_profileNumbered_6 : decode cX10_profileNumbered 6 = .ok (.getfield 23, 3) := by decide +kernel
theorem dX10_profileNumbered_9 : decode cX10_profileNumbered 9 = .ok (.invokevirtual 56, 3) := by decide +kernel
theorem dX10_profileNumbered_12 : decode cX10_profileNumbered 12 = .ok (.if_icmp .lt 14, 3) := by decide +kernel
theorem dX10_profileNumbered_15 : decode cX10_profileNumbered 15 = .ok (.new 94, 3) := by decide +kernel
theorem dX10_profileNumbered_18 : decode cX10_profileNumbered 18 = .ok (.dup, 1) := by decide +kernel
theorem dX10_profileNumbered_19 : decode cX10_profileNumbered 19 = .ok (.ldc_w 370, 3) := by decide +kernel
theorem dX10_profileNumbered_22 : decode cX10_profileNumbered 22 = .ok (.invokespecial 98, 3) := by decide +kernel
theorem dX10_profileNumbered_25 : decode cX10_profileNumbered 25 = .ok (.athrow, 1) := by decide +kernel
theorem dX10_profileNumbered_26 : decode cX10_profileNumbered 26 = .ok (.aload_n 0, 1) := by decide +kernel
theorem dX10_profileNumbered_27 : decode cX10_profileNumbered 27 = .ok (.getfield 23, 3) := by decide +kernel
theorem dX10_profileNumbered_30 : decode cX10_profileNumbered 30 = .ok (.iload_n 1, 1) := by decide +kernel
theorem dX10_profileNumbered_31 : decode cX10_profileNumbered 31 = .ok (.invokevirtual 161, 3) := by decide +kernel
theorem dX10_profileNumbered_34 : decode cX10_profileNumbered 34 = .ok (.checkcast 224, 3) := by decide +kernel
theorem dX10_profileNumbered_37 : decode cX10_profileNumbered 37 = .ok (.areturn, 1) := by decide +kernel
theorem dX10_testDepth_0 : decode cX10_testDepth 0 = .ok (.iload_n 0, 1) := by decide +kernel
theorem dX10_testDepth_1 : decode cX10_testDepth 1 = .ok (.iconst 1, 1) := by decide +kernel
theorem dX10_testDepth_2 : decode cX10_testDepth 2 = .ok (.if_icmp .lt 9, 3) := by decide +kernel
theorem dX10_testDepth_5 : decode cX10_testDepth 5 = .ok (.iload_n 0, 1) := by decide +kernel
theorem dX10_testDepth_6 : decode cX10_testDepth 6 = .ok (.bipush 100, 2) := by decide +kernel
theorem dX10_testDepth_8 : decode cX10_testDepth 8 = .ok (.if_icmp .le 14, 3) := by decide +kernel
theorem dX10_testDepth_11 : decode cX10_testDepth 11 = .ok (.new 43, 3) := by decide +kernel
theorem dX10_testDepth_14 : decode cX10_testDepth 14 = .ok (.dup, 1) := by decide +kernel
theorem dX10_testDepth_15 : decode cX10_testDepth 15 = .ok (.ldc_w 372, 3) := by decide +kernel
theorem dX10_testDepth_18 : decode cX10_testDepth 18 = .ok (.invokespecial 47, 3) := by decide +kernel
theorem dX10_testDepth_21 : decode cX10_testDepth 21 = .ok (.athrow, 1) := by decide +kernel
theorem dX10_testDepth_22 : decode cX10_testDepth 22 = .ok (.return_, 1) := by decide +kernel
theorem dX10_shareOf_0 : decode cX10_shareOf 0 = .ok (.fload_n 0, 1) := by decide +kernel
theorem dX10_shareOf_1 : decode cX10_shareOf 1 = .ok (.fload_n 1, 1) := by decide +kernel
theorem dX10_shareOf_2 : decode cX10_shareOf 2 = .ok (.fadd, 1) := by decide +kernel
theorem dX10_shareOf_3 : decode cX10_shareOf 3 = .ok (.fstore_n 2, 1) := by decide +kernel
theorem dX10_shareOf_4 : decode cX10_shareOf 4 = .ok (.fload_n 2, 1) := by decide +kernel
theorem dX10_shareOf_5 : decode cX10_shareOf 5 = .ok (.fconst 0, 1) := by decide +kernel
theorem dX10_shareOf_6 : decode cX10_shareOf 6 = .ok (.fcmp .l, 1) := by decide +kernel
theorem dX10_shareOf_7 : decode cX10_shareOf 7 = .ok (.ifCond .le 9, 3) := by decide +kernel
theorem dX10_shareOf_10 : decode cX10_shareOf 10 = .ok (.fload_n 0, 1) := by decide +kernel
theorem dX10_shareOf_11 : decode cX10_shareOf 11 = .ok (.fload_n 2, 1) := by decide +kernel
theorem dX10_shareOf_12 : decode cX10_shareOf 12 = .ok (.fdiv, 1) := by decide +kernel
theorem dX10_shareOf_13 : decode cX10_shareOf 13 = .ok (.goto 5, 3) := by decide +kernel
theorem dX10_shareOf_16 : decode cX10_shareOf 16 = .ok (.ldc 246, 2) := by decide +kernel
theorem dX10_shareOf_18 : decode cX10_shareOf 18 = .ok (.freturn, 1) := by decide +kernel
theorem dX10_testRepeat_0 : decode cX10_testRepeat 0 = .ok (.iload_n 0, 1) := by decide +kernel
theorem dX10_testRepeat_1 : decode cX10_testRepeat 1 = .ok (.iconst 1, 1) := by decide +kernel
theorem dX10_testRepeat_2 : decode cX10_testRepeat 2 = .ok (.if_icmp .lt 10, 3) := by decide +kernel
theorem dX10_testRepeat_5 : decode cX10_testRepeat 5 = .ok (.iload_n 0, 1) := by decide +kernel
theorem dX10_testRepeat_6 : decode cX10_testRepeat 6 = .ok (.ldc_w 263, 3) := by decide +kernel
theorem dX10_testRepeat_9 : decode cX10_testRepeat 9 = .ok (.if_icmp .le 14, 3) := by decide +kernel
theorem dX10_testRepeat_12 : decode cX10_testRepeat 12 = .ok (.new 43, 3) := by decide +kernel
theorem dX10_testRepeat_15 : decode cX10_testRepeat 15 = .ok (.dup, 1) := by decide +kernel
theorem dX10_testRepeat_16 : decode cX10_testRepeat 16 = .ok (.ldc_w 264, 3) := by decide +kernel
theorem dX10_testRepeat_19 : decode cX10_testRepeat 19 = .ok (.invokespecial 47, 3) := by decide +kernel
theorem dX10_testRepeat_22 : decode cX10_testRepeat 22 = .ok (.athrow, 1) := by decide +kernel
theorem dX10_testRepeat_23 : decode cX10_testRepeat 23 = .ok (.iload_n 1, 1) := by decide +kernel
theorem dX10_testRepeat_24 : decode cX10_testRepeat 24 = .ok (.iconst 1, 1) := by decide +kernel
theorem dX10_testRepeat_25 : decode cX10_testRepeat 25 = .ok (.if_icmp .lt 10, 3) := by decide +kernel
theorem dX10_testRepeat_28 : decode cX10_testRepeat 28 = .ok (.iload_n 1, 1) := by decide +kernel
theorem dX10_testRepeat_29 : decode cX10_testRepeat 29 = .ok (.ldc_w 263, 3) := by decide +kernel
theorem dX10_testRepeat_32 : decode cX10_testRepeat 32 = .ok (.if_icmp .le 14, 3) := by decide +kernel
theorem dX10_testRepeat_35 : decode cX10_testRepeat 35 = .ok (.new 43, 3) := by decide +kernel
theorem dX10_testRepeat_38 : decode cX10_testRepeat 38 = .ok (.dup, 1) := by decide +kernel
theorem dX10_testRepeat_39 : decode cX10_testRepeat 39 = .ok (.ldc_w 374, 3) := by decide +kernel
theorem dX10_testRepeat_42 : decode cX10_testRepeat 42 = .ok (.invokespecial 47, 3) := by decide +kernel
theorem dX10_testRepeat_45 : decode cX10_testRepeat 45 = .ok (.athrow, 1) := by decide +kernel
theorem dX10_testRepeat_46 : decode cX10_testRepeat 46 = .ok (.return_, 1) := by decide +kernel
theorem dX10_timesNearest_0 : decode cX10_timesNearest 0 = .ok (.iload_n 1, 1) := by decide +kernel
theorem dX10_timesNearest_1 : decode cX10_timesNearest 1 = .ok (.iconst 1, 1) := by decide +kernel
theorem dX10_timesNearest_2 : decode cX10_timesNearest 2 = .ok (.if_icmp .lt 8, 3) := by decide +kernel
theorem dX10_timesNearest_5 : decode cX10_timesNearest 5 = .ok (.iload_n 0, 1) := by decide +kernel
theorem dX10_timesNearest_6 : decode cX10_timesNearest 6 = .ok (.iload_n 1, 1) := by decide +kernel
theorem dX10_timesNearest_7 : decode cX10_timesNearest 7 = .ok (.if_icmp .ge 5, 3) := by decide +kernel
theorem dX10_timesNearest_10 : decode cX10_timesNearest 10 = .ok (.iconst 1, 1) := by decide +kernel
theorem dX10_timesNearest_11 : decode cX10_timesNearest 11 = .ok (.ireturn, 1) := by decide +kernel
theorem dX10_timesNearest_12 : decode cX10_timesNearest 12 = .ok (.iload_n 0, 1) := by decide +kernel
theorem dX10_timesNearest_13 : decode cX10_timesNearest 13 = .ok (.iload_n 1, 1) := by decide +kernel
theorem dX10_timesNearest_14 : decode cX10_timesNearest 14 = .ok (.idiv, 1) := by decide +kernel
theorem dX10_timesNearest_15 : decode cX10_timesNearest 15 = .ok (.i2l, 1) := by decide +kernel
theorem dX10_timesNearest_16 : decode cX10_timesNearest 16 = .ok (.lstore_n 2, 1) := by decide +kernel
theorem dX10_timesNearest_17 : decode cX10_timesNearest 17 = .ok (.lload_n 2, 1) := by decide +kernel
theorem dX10_timesNearest_18 : decode cX10_timesNearest 18 = .ok (.lconst 1, 1) := by decide +kernel
theorem dX10_timesNearest_19 : decode cX10_timesNearest 19 = .ok (.ladd, 1) := by decide +kernel
theorem dX10_timesNearest_20 : decode cX10_timesNearest 20 = .ok (.lstore 4, 2) := by decide +kernel
theorem dX10_timesNearest_22 : decode cX10_timesNearest 22 = .ok (.iload_n 0, 1) := by decide +kernel
theorem dX10_timesNearest_23 : decode cX10_timesNearest 23 = .ok (.i2l, 1) := by decide +kernel
theorem dX10_timesNearest_24 : decode cX10_timesNearest 24 = .ok (.iload_n 1, 1) := by decide +kernel
theorem dX10_timesNearest_25 : decode cX10_timesNearest 25 = .ok (.i2l, 1) := by decide +kernel
theorem dX10_timesNearest_26 : decode cX10_timesNearest 26 = .ok (.lload_n 2, 1) := by decide +kernel
theorem dX10_timesNearest_27 : decode cX10_timesNearest 27 = .ok (.lmul, 1) := by decide +kernel
theorem dX10_timesNearest_28 : decode cX10_timesNearest 28 = .ok (.lsub, 1) := by decide +kernel
theorem dX10_timesNearest_29 : decode cX10_timesNearest 29 = .ok (.lstore 6, 2) := by decide +kernel
theorem dX10_timesNearest_31 : decode cX10_timesNearest 31 = .ok (.iload_n 1, 1) := by decide +kernel
theorem dX10_timesNearest_32 : decode cX10_timesNearest 32 = .ok (.i2l, 1) := by decide +kernel
theorem dX10_timesNearest_33 : decode cX10_timesNearest 33 = .ok (.lload 4, 2) := by decide +kernel
theorem dX10_timesNearest_35 : decode cX10_timesNearest 35 = .ok (.lmul, 1) := by decide +kernel
theorem dX10_timesNearest_36 : decode cX10_timesNearest 36 = .ok (.iload_n 0, 1) := by decide +kernel
theorem dX10_timesNearest_37 : decode cX10_timesNearest 37 = .ok (.i2l, 1) := by decide +kernel
theorem dX10_timesNearest_38 : decode cX10_timesNearest 38 = .ok (.lsub, 1) := by decide +kernel
theorem dX10_timesNearest_39 : decode cX10_timesNearest 39 = .ok (.lstore 8, 2) := by decide +kernel
theorem dX10_timesNearest_41 : decode cX10_timesNearest 41 = .ok (.lload 6, 2) := by decide +kernel
theorem dX10_timesNearest_43 : decode cX10_timesNearest 43 = .ok (.lload 4, 2) := by decide +kernel
theorem dX10_timesNearest_45 : decode cX10_timesNearest 45 = .ok (.lmul, 1) := by decide +kernel
theorem dX10_timesNearest_46 : decode cX10_timesNearest 46 = .ok (.lload 8, 2) := by decide +kernel
theorem dX10_timesNearest_48 : decode cX10_timesNearest 48 = .ok (.lload_n 2, 1) := by decide +kernel
theorem dX10_timesNearest_49 : decode cX10_timesNearest 49 = .ok (.lmul, 1) := by decide +kernel
theorem dX10_timesNearest_50 : decode cX10_timesNearest 50 = .ok (.lcmp, 1) := by decide +kernel
theorem dX10_timesNearest_51 : decode cX10_timesNearest 51 = .ok (.ifCond .gt 7, 3) := by decide +kernel
theorem dX10_timesNearest_54 : decode cX10_timesNearest 54 = .ok (.lload_n 2, 1) := by decide +kernel
theorem dX10_timesNearest_55 : decode cX10_timesNearest 55 = .ok (.goto 5, 3) := by decide +kernel
theorem dX10_timesNearest_58 : decode cX10_timesNearest 58 = .ok (.lload 4, 2) := by decide +kernel
theorem dX10_timesNearest_60 : decode cX10_timesNearest 60 = .ok (.l2i, 1) := by decide +kernel
theorem dX10_timesNearest_61 : decode cX10_timesNearest 61 = .ok (.ireturn, 1) := by decide +kernel
theorem dX10_cutInEnd_0 : decode cX10_cutInEnd 0 = .ok (.iload_n 1, 1) := by decide +kernel
theorem dX10_cutInEnd_1 : decode cX10_cutInEnd 1 = .ok (.iload_n 2, 1) := by decide +kernel
theorem dX10_cutInEnd_2 : decode cX10_cutInEnd 2 = .ok (.iadd, 1) := by decide +kernel
theorem dX10_cutInEnd_3 : decode cX10_cutInEnd 3 = .ok (.istore_n 3, 1) := by decide +kernel
theorem dX10_cutInEnd_4 : decode cX10_cutInEnd 4 = .ok (.iload_n 0, 1) := by decide +kernel
theorem dX10_cutInEnd_5 : decode cX10_cutInEnd 5 = .ok (.iconst 1, 1) := by decide +kernel
theorem dX10_cutInEnd_6 : decode cX10_cutInEnd 6 = .ok (.if_icmp .lt 8, 3) := by decide +kernel
theorem dX10_cutInEnd_9 : decode cX10_cutInEnd 9 = .ok (.iload_n 3, 1) := by decide +kernel
theorem dX10_cutInEnd_10 : decode cX10_cutInEnd 10 = .ok (.iconst 1, 1) := by decide +kernel
theorem dX10_cutInEnd_11 : decode cX10_cutInEnd 11 = .ok (.if_icmp .ge 5, 3) := by decide +kernel
theorem dX10_cutInEnd_14 : decode cX10_cutInEnd 14 = .ok (.iconst 0, 1) := by decide +kernel
theorem dX10_cutInEnd_15 : decode cX10_cutInEnd 15 = .ok (.ireturn, 1) := by decide +kernel
theorem dX10_cutInEnd_16 : decode cX10_cutInEnd 16 = .ok (.iload_n 0, 1) := by decide +kernel
theorem dX10_cutInEnd_17 : decode cX10_cutInEnd 17 = .ok (.iload_n 3, 1) := by decide +kernel
theorem dX10_cutInEnd_18 : decode cX10_cutInEnd 18 = .ok (.irem, 1) := by decide +kernel
theorem dX10_cutInEnd_19 : decode cX10_cutInEnd 19 = .ok (.istore 4, 2) := by decide +kernel
theorem dX10_cutInEnd_21 : decode cX10_cutInEnd 21 = .ok (.iload 4, 2) := by decide +kernel
theorem dX10_cutInEnd_23 : decode cX10_cutInEnd 23 = .ok (.iload_n 1, 1) := by decide +kernel
theorem dX10_cutInEnd_24 : decode cX10_cutInEnd 24 = .ok (.if_icmp .ge 8, 3) := by decide +kernel
theorem dX10_cutInEnd_27 : decode cX10_cutInEnd 27 = .ok (.iload 4, 2) := by decide +kernel
theorem dX10_cutInEnd_29 : decode cX10_cutInEnd 29 = .ok (.goto 4, 3) := by decide +kernel
theorem dX10_cutInEnd_32 : decode cX10_cutInEnd 32 = .ok (.iconst 0, 1) := by decide +kernel
theorem dX10_cutInEnd_33 : decode cX10_cutInEnd 33 = .ok (.ireturn, 1) := by decide +kernel
theorem dX10_testPigment_0 : decode cX10_testPigment 0 = .ok (.iload_n 0, 1) := by decide +kernel
theorem dX10_testPigment_1 : decode cX10_testPigment 1 = .ok (.ifCond .lt 9, 3) := by decide +kernel
theorem dX10_testPigment_4 : decode cX10_testPigment 4 = .ok (.iload_n 0, 1) := by decide +kernel
theorem dX10_testPigment_5 : decode cX10_testPigment 5 = .ok (.bipush 10, 2) := by decide +kernel
theorem dX10_testPigment_7 : decode cX10_testPigment 7 = .ok (.if_icmp .lt 14, 3) := by decide +kernel
theorem dX10_testPigment_10 : decode cX10_testPigment 10 = .ok (.new 94, 3) := by decide +kernel
theorem dX10_testPigment_13 : decode cX10_testPigment 13 = .ok (.dup, 1) := by decide +kernel
theorem dX10_testPigment_14 : decode cX10_testPigment 14 = .ok (.ldc_w 376, 3) := by decide +kernel
theorem dX10_testPigment_17 : decode cX10_testPigment 17 = .ok (.invokespecial 98, 3) := by decide +kernel
theorem dX10_testPigment_20 : decode cX10_testPigment 20 = .ok (.athrow, 1) := by decide +kernel
theorem dX10_testPigment_21 : decode cX10_testPigment 21 = .ok (.return_, 1) := by decide +kernel
theorem dX10_patchNumbered_0 : decode cX10_patchNumbered 0 = .ok (.aload_n 0, 1) := by decide +kernel
theorem dX10_patchNumbered_1 : decode cX10_patchNumbered 1 = .ok (.getfield 29, 3) := by decide +kernel
theorem dX10_patchNumbered_4 : decode cX10_patchNumbered 4 = .ok (.iload_n 1, 1) := by decide +kernel
theorem dX10_patchNumbered_5 : decode cX10_patchNumbered 5 = .ok (.invokevirtual 378, 3) := by decide +kernel
theorem dX10_patchNumbered_8 : decode cX10_patchNumbered 8 = .ok (.astore_n 2, 1) := by decide +kernel
theorem dX10_patchNumbered_9 : decode cX10_patchNumbered 9 = .ok (.aload_n 2, 1) := by decide +kernel
theorem dX10_patchNumbered_10 : decode cX10_patchNumbered 10 = .ok (.ifnonnull 14, 3) := by decide +kernel
theorem dX10_patchNumbered_13 : decode cX10_patchNumbered 13 = .ok (.new 94, 3) := by decide +kernel
theorem dX10_patchNumbered_16 : decode cX10_patchNumbered 16 = .ok (.dup, 1) := by decide +kernel
theorem dX10_patchNumbered_17 : decode cX10_patchNumbered 17 = .ok (.ldc_w 381, 3) := by decide +kernel
theorem dX10_patchNumbered_20 : decode cX10_patchNumbered 20 = .ok (.invokespecial 98, 3) := by decide +kernel
theorem dX10_patchNumbered_23 : decode cX10_patchNumbered 23 = .ok (.athrow, 1) := by decide +kernel
theorem dX10_patchNumbered_24 : decode cX10_patchNumbered 24 = .ok (.aload_n 2, 1) := by decide +kernel
theorem dX10_patchNumbered_25 : decode cX10_patchNumbered 25 = .ok (.areturn, 1) := by decide +kernel
theorem dX10_hasCell_0 : decode cX10_hasCell 0 = .ok (.lload_n 0, 1) := by decide +kernel
theorem dX10_hasCell_1 : decode cX10_hasCell 1 = .ok (.iload_n 2, 1) := by decide +kernel
theorem dX10_hasCell_2 : decode cX10_hasCell 2 = .ok (.lushr, 1) := by decide +kernel
theorem dX10_hasCell_3 : decode cX10_hasCell 3 = .ok (.lconst 1, 1) := by decide +kernel
theorem dX10_hasCell_4 : decode cX10_hasCell 4 = .ok (.land, 1) := by decide +kernel
theorem dX10_hasCell_5 : decode cX10_hasCell 5 = .ok (.lconst 0, 1) := by decide +kernel
theorem dX10_hasCell_6 : decode cX10_hasCell 6 = .ok (.lcmp, 1) := by decide +kernel
theorem dX10_hasCell_7 : decode cX10_hasCell 7 = .ok (.ifCond .eq 7, 3) := by decide +kernel
theorem dX10_hasCell_10 : decode cX10_hasCell 10 = .ok (.iconst 1, 1) := by decide +kernel
theorem dX10_hasCell_11 : decode cX10_hasCell 11 = .ok (.goto 4, 3) := by decide +kernel
theorem dX10_hasCell_14 : decode cX10_hasCell 14 = .ok (.iconst 0, 1) := by decide +kernel
theorem dX10_hasCell_15 : decode cX10_hasCell 15 = .ok (.ireturn, 1) := by decide +kernel
theorem dX10_cellsBeside_0 : decode cX10_cellsBeside 0 = .ok (.lload_n 0, 1) := by decide +kernel
theorem dX10_cellsBeside_1 : decode cX10_cellsBeside 1 = .ok (.bipush 8, 2) := by decide +kernel
theorem dX10_cellsBeside_3 : decode cX10_cellsBeside 3 = .ok (.lushr, 1) := by decide +kernel
theorem dX10_cellsBeside_4 : decode cX10_cellsBeside 4 = .ok (.lstore_n 2, 1) := by decide +kernel
theorem dX10_cellsBeside_5 : decode cX10_cellsBeside 5 = .ok (.lload_n 0, 1) := by decide +kernel
theorem dX10_cellsBeside_6 : decode cX10_cellsBeside 6 = .ok (.bipush 8, 2) := by decide +kernel
theorem dX10_cellsBeside_8 : decode cX10_cellsBeside 8 = .ok (.lshl, 1) := by decide +kernel
theorem dX10_cellsBeside_9 : decode cX10_cellsBeside 9 = .ok (.lstore 4, 2) := by decide +kernel
theorem dX10_cellsBeside_11 : decode cX10_cellsBeside 11 = .ok (.lload_n 0, 1) := by decide +kernel
theorem dX10_cellsBeside_12 : decode cX10_cellsBeside 12 = .ok (.ldc2_w 383, 3) := by decide +kernel
theorem dX10_cellsBeside_15 : decode cX10_cellsBeside 15 = .ok (.land, 1) := by decide +kernel
theorem dX10_cellsBeside_16 : decode cX10_cellsBeside 16 = .ok (.iconst 1, 1) := by decide +kernel
theorem dX10_cellsBeside_17 : decode cX10_cellsBeside 17 = .ok (.lushr, 1) := by decide +kernel
theorem dX10_cellsBeside_18 : decode cX10_cellsBeside 18 = .ok (.lstore 6, 2) := by decide +kernel
theorem dX10_cellsBeside_20 : decode cX10_cellsBeside 20 = .ok (.lload_n 0, 1) := by decide +kernel
theorem dX10_cellsBeside_21 : decode cX10_cellsBeside 21 = .ok (.ldc2_w 385, 3) := by decide +kernel
theorem dX10_cellsBeside_24 : decode cX10_cellsBeside 24 = .ok (.land, 1) := by decide +kernel
theorem dX10_cellsBeside_25 : decode cX10_cellsBeside 25 = .ok (.iconst 1, 1) := by decide +kernel
theorem dX10_cellsBeside_26 : decode cX10_cellsBeside 26 = .ok (.lshl, 1) := by decide +kernel
theorem dX10_cellsBeside_27 : decode cX10_cellsBeside 27 = .ok (.lstore 8, 2) := by decide +kernel
theorem dX10_cellsBeside_29 : decode cX10_cellsBeside 29 = .ok (.lload_n 2, 1) := by decide +kernel
theorem dX10_cellsBeside_30 : decode cX10_cellsBeside 30 = .ok (.lload 4, 2) := by decide +kernel
theorem dX10_cellsBeside_32 : decode cX10_cellsBeside 32 = .ok (.lor, 1) := by decide +kernel
theorem dX10_cellsBeside_33 : decode cX10_cellsBeside 33 = .ok (.lload 6, 2) := by decide +kernel
theorem dX10_cellsBeside_35 : decode cX10_cellsBeside 35 = .ok (.lor, 1) := by decide +kernel
theorem dX10_cellsBeside_36 : decode cX10_cellsBeside 36 = .ok (.lload 8, 2) := by decide +kernel
theorem dX10_cellsBeside_38 : decode cX10_cellsBeside 38 = .ok (.lor, 1) := by decide +kernel
theorem dX10_cellsBeside_39 : decode cX10_cellsBeside 39 = .ok (.ldc2_w 282, 3) := by decide +kernel
theorem dX10_cellsBeside_42 : decode cX10_cellsBeside 42 = .ok (.land, 1) := by decide +kernel
theorem dX10_cellsBeside_43 : decode cX10_cellsBeside 43 = .ok (.lreturn, 1) := by decide +kernel
theorem dX10_fieldAround_0 : decode cX10_fieldAround 0 = .ok (.lload_n 1, 1) := by decide +kernel
theorem dX10_fieldAround_1 : decode cX10_fieldAround 1 = .ok (.lconst 1, 1) := by decide +kernel
theorem dX10_fieldAround_2 : decode cX10_fieldAround 2 = .ok (.iload_n 0, 1) := by decide +kernel
theorem dX10_fieldAround_3 : decode cX10_fieldAround 3 = .ok (.lshl, 1) := by decide +kernel
theorem dX10_fieldAround_4 : decode cX10_fieldAround 4 = .ok (.land, 1) := by decide +kernel
theorem dX10_fieldAround_5 : decode cX10_fieldAround 5 = .ok (.lstore_n 3, 1) := by decide +kernel
theorem dX10_fieldAround_6 : decode cX10_fieldAround 6 = .ok (.iconst 0, 1) := by decide +kernel
theorem dX10_fieldAround_7 : decode cX10_fieldAround 7 = .ok (.istore 5, 2) := by decide +kernel
theorem dX10_fieldAround_9 : decode cX10_fieldAround 9 = .ok (.iload 5, 2) := by decide +kernel
theorem dX10_fieldAround_11 : decode cX10_fieldAround 11 = .ok (.bipush 48, 2) := by decide +kernel
theorem dX10_fieldAround_13 : decode cX10_fieldAround 13 = .ok (.if_icmp .ge 24, 3) := by decide +kernel
theorem dX10_fieldAround_16 : decode cX10_fieldAround 16 = .ok (.lload_n 3, 1) := by decide +kernel
theorem dX10_fieldAround_17 : decode cX10_fieldAround 17 = .ok (.lconst 0, 1) := by decide +kernel
theorem dX10_fieldAround_18 : decode cX10_fieldAround 18 = .ok (.lcmp, 1) := by decide +kernel
theorem dX10_fieldAround_19 : decode cX10_fieldAround 19 = .ok (.ifCond .eq 18, 3) := by decide +kernel
theorem dX10_fieldAround_22 : decode cX10_fieldAround 22 = .ok (.lload_n 3, 1) := by decide +kernel
theorem dX10_fieldAround_23 : decode cX10_fieldAround 23 = .ok (.lload_n 3, 1) := by decide +kernel
theorem dX10_fieldAround_24 : decode cX10_fieldAround 24 = .ok (.invokestatic 330, 3) := by decide +kernel
theorem dX10_fieldAround_27 : decode cX10_fieldAround 27 = .ok (.lload_n 1, 1) := by decide +kernel
theorem dX10_fieldAround_28 : decode cX10_fieldAround 28 = .ok (.land, 1) := by decide +kernel
theorem dX10_fieldAround_29 : decode cX10_fieldAround 29 = .ok (.lor, 1) := by decide +kernel
theorem dX10_fieldAround_30 : decode cX10_fieldAround 30 = .ok (.lstore_n 3, 1) := by decide +kernel
theorem dX10_fieldAround_31 : decode cX10_fieldAround 31 = .ok (.iinc 5 1, 3) := by decide +kernel
theorem dX10_fieldAround_34 : decode cX10_fieldAround 34 = .ok (.goto (-25), 3) := by decide +kernel
theorem dX10_fieldAround_37 : decode cX10_fieldAround 37 = .ok (.lload_n 3, 1) := by decide +kernel
theorem dX10_fieldAround_38 : decode cX10_fieldAround 38 = .ok (.lreturn, 1) := by decide +kernel
theorem dX10_isReading_0 : decode cX10_isReading 0 = .ok (.iload_n 0, 1) := by decide +kernel
theorem dX10_isReading_1 : decode cX10_isReading 1 = .ok (.ifCond .lt 13, 3) := by decide +kernel
theorem dX10_isReading_4 : decode cX10_isReading 4 = .ok (.iload_n 0, 1) := by decide +kernel
theorem dX10_isReading_5 : decode cX10_isReading 5 = .ok (.bipush 99, 2) := by decide +kernel
theorem dX10_isReading_7 : decode cX10_isReading 7 = .ok (.if_icmp .gt 7, 3) := by decide +kernel
theorem dX10_isReading_10 : decode cX10_isReading 10 = .ok (.iconst 1, 1) := by decide +kernel
theorem dX10_isReading_11 : decode cX10_isReading 11 = .ok (.goto 4, 3) := by decide +kernel
theorem dX10_isReading_14 : decode cX10_isReading 14 = .ok (.iconst 0, 1) := by decide +kernel
theorem dX10_isReading_15 : decode cX10_isReading 15 = .ok (.ireturn, 1) := by decide +kernel

theorem d_A_init_0 : decode b_A_init 0 = .ok (.aload_n 0, 1) := by decide +kernel
theorem d_A_init_1 : decode b_A_init 1 = .ok (.invokespecial 1, 3) := by decide +kernel
theorem d_A_init_4 : decode b_A_init 4 = .ok (.return_, 1) := by decide +kernel
theorem d_A_forgetRun_0 : decode b_A_forgetRun 0 = .ok (.aload_n 0, 1) := by decide +kernel
theorem d_A_forgetRun_1 : decode b_A_forgetRun 1 = .ok (.iconst 0, 1) := by decide +kernel
theorem d_A_forgetRun_2 : decode b_A_forgetRun 2 = .ok (.putfield 7, 3) := by decide +kernel
theorem d_A_forgetRun_5 : decode b_A_forgetRun 5 = .ok (.aload_n 0, 1) := by decide +kernel
theorem d_A_forgetRun_6 : decode b_A_forgetRun 6 = .ok (.iconst 0, 1) := by decide +kernel
theorem d_A_forgetRun_7 : decode b_A_forgetRun 7 = .ok (.putfield 13, 3) := by decide +kernel
theorem d_A_forgetRun_10 : decode b_A_forgetRun 10 = .ok (.aload_n 0, 1) := by decide +kernel
theorem d_A_forgetRun_11 : decode b_A_forgetRun 11 = .ok (.iconst 0, 1) := by decide +kernel
theorem d_A_forgetRun_12 : decode b_A_forgetRun 12 = .ok (.putfield 16, 3) := by decide +kernel
theorem d_A_forgetRun_15 : decode b_A_forgetRun 15 = .ok (.return_, 1) := by decide +kernel
theorem d_A_isDue_0 : decode b_A_isDue 0 = .ok (.aload_n 0, 1) := by decide +kernel
theorem d_A_isDue_1 : decode b_A_isDue 1 = .ok (.getfield 19, 3) := by decide +kernel
theorem d_A_isDue_4 : decode b_A_isDue 4 = .ok (.ifCond .eq 18, 3) := by decide +kernel
theorem d_A_isDue_7 : decode b_A_isDue 7 = .ok (.aload_n 0, 1) := by decide +kernel
theorem d_A_isDue_8 : decode b_A_isDue 8 = .ok (.getfield 23, 3) := by decide +kernel
theorem d_A_isDue_11 : decode b_A_isDue 11 = .ok (.aload_n 0, 1) := by decide +kernel
theorem d_A_isDue_12 : decode b_A_isDue 12 = .ok (.getfield 26, 3) := by decide +kernel
theorem d_A_isDue_15 : decode b_A_isDue 15 = .ok (.if_icmp .ge 7, 3) := by decide +kernel
theorem d_A_isDue_18 : decode b_A_isDue 18 = .ok (.iconst 1, 1) := by decide +kernel
theorem d_A_isDue_19 : decode b_A_isDue 19 = .ok (.goto 4, 3) := by decide +kernel
theorem d_A_isDue_22 : decode b_A_isDue 22 = .ok (.iconst 0, 1) := by decide +kernel
theorem d_A_isDue_23 : decode b_A_isDue 23 = .ok (.ireturn, 1) := by decide +kernel
theorem d_A_answerTo_0 : decode b_A_answerTo 0 = .ok (.aload_n 0, 1) := by decide +kernel
theorem d_A_answerTo_1 : decode b_A_answerTo 1 = .ok (.dup, 1) := by decide +kernel
theorem d_A_answerTo_2 : decode b_A_answerTo 2 = .ok (.getfield 13, 3) := by decide +kernel
theorem d_A_answerTo_5 : decode b_A_answerTo 5 = .ok (.iload_n 1, 1) := by decide +kernel
theorem d_A_answerTo_6 : decode b_A_answerTo 6 = .ok (.iadd, 1) := by decide +kernel
theorem d_A_answerTo_7 : decode b_A_answerTo 7 = .ok (.putfield 13, 3) := by decide +kernel
theorem d_A_answerTo_10 : decode b_A_answerTo 10 = .ok (.iload_n 1, 1) := by decide +kernel
theorem d_A_answerTo_11 : decode b_A_answerTo 11 = .ok (.aload_n 0, 1) := by decide +kernel
theorem d_A_answerTo_12 : decode b_A_answerTo 12 = .ok (.getfield 7, 3) := by decide +kernel
theorem d_A_answerTo_15 : decode b_A_answerTo 15 = .ok (.isub, 1) := by decide +kernel
theorem d_A_answerTo_16 : decode b_A_answerTo 16 = .ok (.istore_n 2, 1) := by decide +kernel
theorem d_A_answerTo_17 : decode b_A_answerTo 17 = .ok (.aload_n 0, 1) := by decide +kernel
theorem d_A_answerTo_18 : decode b_A_answerTo 18 = .ok (.iload_n 1, 1) := by decide +kernel
theorem d_A_answerTo_19 : decode b_A_answerTo 19 = .ok (.putfield 7, 3) := by decide +kernel
theorem d_A_answerTo_22 : decode b_A_answerTo 22 = .ok (.aload_n 0, 1) := by decide +kernel
theorem d_A_answerTo_23 : decode b_A_answerTo 23 = .ok (.getfield 29, 3) := by decide +kernel
theorem d_A_answerTo_26 : decode b_A_answerTo 26 = .ok (.tableswitch 45 0 2 #[26, 33, 40], 26) := by decide +kernel
theorem d_A_answerTo_52 : decode b_A_answerTo 52 = .ok (.aload_n 0, 1) := by decide +kernel
theorem d_A_answerTo_53 : decode b_A_answerTo 53 = .ok (.getfield 32, 3) := by decide +kernel
theorem d_A_answerTo_56 : decode b_A_answerTo 56 = .ok (.iload_n 1, 1) := by decide +kernel
theorem d_A_answerTo_57 : decode b_A_answerTo 57 = .ok (.iadd, 1) := by decide +kernel
theorem d_A_answerTo_58 : decode b_A_answerTo 58 = .ok (.ireturn, 1) := by decide +kernel
theorem d_A_answerTo_59 : decode b_A_answerTo 59 = .ok (.aload_n 0, 1) := by decide +kernel
theorem d_A_answerTo_60 : decode b_A_answerTo 60 = .ok (.getfield 32, 3) := by decide +kernel
theorem d_A_answerTo_63 : decode b_A_answerTo 63 = .ok (.iload_n 1, 1) := by decide +kernel
theorem d_A_answerTo_64 : decode b_A_answerTo 64 = .ok (.imul, 1) := by decide +kernel
theorem d_A_answerTo_65 : decode b_A_answerTo 65 = .ok (.ireturn, 1) := by decide +kernel
theorem d_A_answerTo_66 : decode b_A_answerTo 66 = .ok (.aload_n 0, 1) := by decide +kernel
theorem d_A_answerTo_67 : decode b_A_answerTo 67 = .ok (.getfield 13, 3) := by decide +kernel
theorem d_A_answerTo_70 : decode b_A_answerTo 70 = .ok (.ireturn, 1) := by decide +kernel
theorem d_A_answerTo_71 : decode b_A_answerTo 71 = .ok (.iload_n 2, 1) := by decide +kernel
theorem d_A_answerTo_72 : decode b_A_answerTo 72 = .ok (.ireturn, 1) := by decide +kernel
theorem d_E_init_0 : decode b_E_init 0 = .ok (.aload_n 0, 1) := by decide +kernel
theorem d_E_init_1 : decode b_E_init 1 = .ok (.invokespecial 1, 3) := by decide +kernel
theorem d_E_init_4 : decode b_E_init 4 = .ok (.aload_n 0, 1) := by decide +kernel
theorem d_E_init_5 : decode b_E_init 5 = .ok (.sipush 256, 3) := by decide +kernel
theorem d_E_init_8 : decode b_E_init 8 = .ok (.newarray .int, 2) := by decide +kernel
theorem d_E_init_10 : decode b_E_init 10 = .ok (.putfield 9, 3) := by decide +kernel
theorem d_E_init_13 : decode b_E_init 13 = .ok (.return_, 1) := by decide +kernel
theorem d_E_isLoop_0 : decode b_E_isLoop 0 = .ok (.aload_n 0, 1) := by decide +kernel
theorem d_E_isLoop_1 : decode b_E_isLoop 1 = .ok (.getfield 13, 3) := by decide +kernel
theorem d_E_isLoop_4 : decode b_E_isLoop 4 = .ok (.aload_n 0, 1) := by decide +kernel
theorem d_E_isLoop_5 : decode b_E_isLoop 5 = .ok (.getfield 17, 3) := by decide +kernel
theorem d_E_isLoop_8 : decode b_E_isLoop 8 = .ok (.if_icmp .ne 7, 3) := by decide +kernel
theorem d_E_isLoop_11 : decode b_E_isLoop 11 = .ok (.iconst 1, 1) := by decide +kernel
theorem d_E_isLoop_12 : decode b_E_isLoop 12 = .ok (.goto 4, 3) := by decide +kernel
theorem d_E_isLoop_15 : decode b_E_isLoop 15 = .ok (.iconst 0, 1) := by decide +kernel
theorem d_E_isLoop_16 : decode b_E_isLoop 16 = .ok (.ireturn, 1) := by decide +kernel
theorem d_E_setAsAtFirst_0 : decode b_E_setAsAtFirst 0 = .ok (.iconst 0, 1) := by decide +kernel
theorem d_E_setAsAtFirst_1 : decode b_E_setAsAtFirst 1 = .ok (.istore_n 1, 1) := by decide +kernel
theorem d_E_setAsAtFirst_2 : decode b_E_setAsAtFirst 2 = .ok (.iload_n 1, 1) := by decide +kernel
theorem d_E_setAsAtFirst_3 : decode b_E_setAsAtFirst 3 = .ok (.aload_n 0, 1) := by decide +kernel
theorem d_E_setAsAtFirst_4 : decode b_E_setAsAtFirst 4 = .ok (.getfield 20, 3) := by decide +kernel
theorem d_E_setAsAtFirst_7 : decode b_E_setAsAtFirst 7 = .ok (.if_icmp .ge 20, 3) := by decide +kernel
theorem d_E_setAsAtFirst_10 : decode b_E_setAsAtFirst 10 = .ok (.aload_n 0, 1) := by decide +kernel
theorem d_E_setAsAtFirst_11 : decode b_E_setAsAtFirst 11 = .ok (.getfield 9, 3) := by decide +kernel
theorem d_E_setAsAtFirst_14 : decode b_E_setAsAtFirst 14 = .ok (.iload_n 1, 1) := by decide +kernel
theorem d_E_setAsAtFirst_15 : decode b_E_setAsAtFirst 15 = .ok (.sipush 255, 3) := by decide +kernel
theorem d_E_setAsAtFirst_18 : decode b_E_setAsAtFirst 18 = .ok (.iand, 1) := by decide +kernel
theorem d_E_setAsAtFirst_19 : decode b_E_setAsAtFirst 19 = .ok (.iconst 0, 1) := by decide +kernel
theorem d_E_setAsAtFirst_20 : decode b_E_setAsAtFirst 20 = .ok (.iastore, 1) := by decide +kernel
theorem d_E_setAsAtFirst_21 : decode b_E_setAsAtFirst 21 = .ok (.iinc 1 1, 3) := by decide +kernel
theorem d_E_setAsAtFirst_24 : decode b_E_setAsAtFirst 24 = .ok (.goto (-22), 3) := by decide +kernel
theorem d_E_setAsAtFirst_27 : decode b_E_setAsAtFirst 27 = .ok (.aload_n 0, 1) := by decide +kernel
theorem d_E_setAsAtFirst_28 : decode b_E_setAsAtFirst 28 = .ok (.iconst 0, 1) := by decide +kernel
theorem d_E_setAsAtFirst_29 : decode b_E_setAsAtFirst 29 = .ok (.putfield 23, 3) := by decide +kernel
theorem d_E_setAsAtFirst_32 : decode b_E_setAsAtFirst 32 = .ok (.aload_n 0, 1) := by decide +kernel
theorem d_E_setAsAtFirst_33 : decode b_E_setAsAtFirst 33 = .ok (.aload_n 0, 1) := by decide +kernel
theorem d_E_setAsAtFirst_34 : decode b_E_setAsAtFirst 34 = .ok (.getfield 20, 3) := by decide +kernel
theorem d_E_setAsAtFirst_37 : decode b_E_setAsAtFirst 37 = .ok (.putfield 26, 3) := by decide +kernel
theorem d_E_setAsAtFirst_40 : decode b_E_setAsAtFirst 40 = .ok (.return_, 1) := by decide +kernel
theorem d_E_at_0 : decode b_E_at 0 = .ok (.aload_n 0, 1) := by decide +kernel
theorem d_E_at_1 : decode b_E_at 1 = .ok (.getfield 9, 3) := by decide +kernel
theorem d_E_at_4 : decode b_E_at 4 = .ok (.aload_n 0, 1) := by decide +kernel
theorem d_E_at_5 : decode b_E_at 5 = .ok (.getfield 23, 3) := by decide +kernel
theorem d_E_at_8 : decode b_E_at 8 = .ok (.iload_n 1, 1) := by decide +kernel
theorem d_E_at_9 : decode b_E_at 9 = .ok (.iadd, 1) := by decide +kernel
theorem d_E_at_10 : decode b_E_at 10 = .ok (.sipush 255, 3) := by decide +kernel
theorem d_E_at_13 : decode b_E_at 13 = .ok (.iand, 1) := by decide +kernel
theorem d_E_at_14 : decode b_E_at 14 = .ok (.iaload, 1) := by decide +kernel
theorem d_E_at_15 : decode b_E_at 15 = .ok (.ireturn, 1) := by decide +kernel
theorem d_E_takeWeighed_0 : decode b_E_takeWeighed 0 = .ok (.iconst 0, 1) := by decide +kernel
theorem d_E_takeWeighed_1 : decode b_E_takeWeighed 1 = .ok (.istore_n 1, 1) := by decide +kernel
theorem d_E_takeWeighed_2 : decode b_E_takeWeighed 2 = .ok (.iconst 0, 1) := by decide +kernel
theorem d_E_takeWeighed_3 : decode b_E_takeWeighed 3 = .ok (.istore_n 2, 1) := by decide +kernel
theorem d_E_takeWeighed_4 : decode b_E_takeWeighed 4 = .ok (.iload_n 2, 1) := by decide +kernel
theorem d_E_takeWeighed_5 : decode b_E_takeWeighed 5 = .ok (.aload_n 0, 1) := by decide +kernel
theorem d_E_takeWeighed_6 : decode b_E_takeWeighed 6 = .ok (.getfield 29, 3) := by decide +kernel
theorem d_E_takeWeighed_9 : decode b_E_takeWeighed 9 = .ok (.if_icmp .ge 21, 3) := by decide +kernel
theorem d_E_takeWeighed_12 : decode b_E_takeWeighed 12 = .ok (.iload_n 1, 1) := by decide +kernel
theorem d_E_takeWeighed_13 : decode b_E_takeWeighed 13 = .ok (.aload_n 0, 1) := by decide +kernel
theorem d_E_takeWeighed_14 : decode b_E_takeWeighed 14 = .ok (.iload_n 2, 1) := by decide +kernel
theorem d_E_takeWeighed_15 : decode b_E_takeWeighed 15 = .ok (.invokevirtual 32, 3) := by decide +kernel
theorem d_E_takeWeighed_18 : decode b_E_takeWeighed 18 = .ok (.iload_n 2, 1) := by decide +kernel
theorem d_E_takeWeighed_19 : decode b_E_takeWeighed 19 = .ok (.iconst 1, 1) := by decide +kernel
theorem d_E_takeWeighed_20 : decode b_E_takeWeighed 20 = .ok (.iadd, 1) := by decide +kernel
theorem d_E_takeWeighed_21 : decode b_E_takeWeighed 21 = .ok (.imul, 1) := by decide +kernel
theorem d_E_takeWeighed_22 : decode b_E_takeWeighed 22 = .ok (.iadd, 1) := by decide +kernel
theorem d_E_takeWeighed_23 : decode b_E_takeWeighed 23 = .ok (.istore_n 1, 1) := by decide +kernel
theorem d_E_takeWeighed_24 : decode b_E_takeWeighed 24 = .ok (.iinc 2 1, 3) := by decide +kernel
theorem d_E_takeWeighed_27 : decode b_E_takeWeighed 27 = .ok (.goto (-23), 3) := by decide +kernel
theorem d_E_takeWeighed_30 : decode b_E_takeWeighed 30 = .ok (.aload_n 0, 1) := by decide +kernel
theorem d_E_takeWeighed_31 : decode b_E_takeWeighed 31 = .ok (.aload_n 0, 1) := by decide +kernel
theorem d_E_takeWeighed_32 : decode b_E_takeWeighed 32 = .ok (.getfield 23, 3) := by decide +kernel
theorem d_E_takeWeighed_35 : decode b_E_takeWeighed 35 = .ok (.aload_n 0, 1) := by decide +kernel
theorem d_E_takeWeighed_36 : decode b_E_takeWeighed 36 = .ok (.getfield 29, 3) := by decide +kernel
theorem d_E_takeWeighed_39 : decode b_E_takeWeighed 39 = .ok (.iadd, 1) := by decide +kernel
theorem d_E_takeWeighed_40 : decode b_E_takeWeighed 40 = .ok (.sipush 255, 3) := by decide +kernel
theorem d_E_takeWeighed_43 : decode b_E_takeWeighed 43 = .ok (.iand, 1) := by decide +kernel
theorem d_E_takeWeighed_44 : decode b_E_takeWeighed 44 = .ok (.putfield 23, 3) := by decide +kernel
theorem d_E_takeWeighed_47 : decode b_E_takeWeighed 47 = .ok (.aload_n 0, 1) := by decide +kernel
theorem d_E_takeWeighed_48 : decode b_E_takeWeighed 48 = .ok (.dup, 1) := by decide +kernel
theorem d_E_takeWeighed_49 : decode b_E_takeWeighed 49 = .ok (.getfield 26, 3) := by decide +kernel
theorem d_E_takeWeighed_52 : decode b_E_takeWeighed 52 = .ok (.aload_n 0, 1) := by decide +kernel
theorem d_E_takeWeighed_53 : decode b_E_takeWeighed 53 = .ok (.getfield 29, 3) := by decide +kernel
theorem d_E_takeWeighed_56 : decode b_E_takeWeighed 56 = .ok (.isub, 1) := by decide +kernel
theorem d_E_takeWeighed_57 : decode b_E_takeWeighed 57 = .ok (.putfield 26, 3) := by decide +kernel
theorem d_E_takeWeighed_60 : decode b_E_takeWeighed 60 = .ok (.iload_n 1, 1) := by decide +kernel
theorem d_E_takeWeighed_61 : decode b_E_takeWeighed 61 = .ok (.ireturn, 1) := by decide +kernel
theorem d_E_putFrom_0 : decode b_E_putFrom 0 = .ok (.iconst 0, 1) := by decide +kernel
theorem d_E_putFrom_1 : decode b_E_putFrom 1 = .ok (.istore_n 2, 1) := by decide +kernel
theorem d_E_putFrom_2 : decode b_E_putFrom 2 = .ok (.iload_n 2, 1) := by decide +kernel
theorem d_E_putFrom_3 : decode b_E_putFrom 3 = .ok (.aload_n 0, 1) := by decide +kernel
theorem d_E_putFrom_4 : decode b_E_putFrom 4 = .ok (.getfield 36, 3) := by decide +kernel
theorem d_E_putFrom_7 : decode b_E_putFrom 7 = .ok (.if_icmp .ge 32, 3) := by decide +kernel
theorem d_E_putFrom_10 : decode b_E_putFrom 10 = .ok (.aload_n 0, 1) := by decide +kernel
theorem d_E_putFrom_11 : decode b_E_putFrom 11 = .ok (.getfield 9, 3) := by decide +kernel
theorem d_E_putFrom_14 : decode b_E_putFrom 14 = .ok (.aload_n 0, 1) := by decide +kernel
theorem d_E_putFrom_15 : decode b_E_putFrom 15 = .ok (.getfield 23, 3) := by decide +kernel
theorem d_E_putFrom_18 : decode b_E_putFrom 18 = .ok (.aload_n 0, 1) := by decide +kernel
theorem d_E_putFrom_19 : decode b_E_putFrom 19 = .ok (.getfield 26, 3) := by decide +kernel
theorem d_E_putFrom_22 : decode b_E_putFrom 22 = .ok (.iadd, 1) := by decide +kernel
theorem d_E_putFrom_23 : decode b_E_putFrom 23 = .ok (.iload_n 2, 1) := by decide +kernel
theorem d_E_putFrom_24 : decode b_E_putFrom 24 = .ok (.iadd, 1) := by decide +kernel
theorem d_E_putFrom_25 : decode b_E_putFrom 25 = .ok (.sipush 255, 3) := by decide +kernel
theorem d_E_putFrom_28 : decode b_E_putFrom 28 = .ok (.iand, 1) := by decide +kernel
theorem d_E_putFrom_29 : decode b_E_putFrom 29 = .ok (.iload_n 1, 1) := by decide +kernel
theorem d_E_putFrom_30 : decode b_E_putFrom 30 = .ok (.iload_n 2, 1) := by decide +kernel
theorem d_E_putFrom_31 : decode b_E_putFrom 31 = .ok (.iadd, 1) := by decide +kernel
theorem d_E_putFrom_32 : decode b_E_putFrom 32 = .ok (.iastore, 1) := by decide +kernel
theorem d_E_putFrom_33 : decode b_E_putFrom 33 = .ok (.iinc 2 1, 3) := by decide +kernel
theorem d_E_putFrom_36 : decode b_E_putFrom 36 = .ok (.goto (-34), 3) := by decide +kernel
theorem d_E_putFrom_39 : decode b_E_putFrom 39 = .ok (.aload_n 0, 1) := by decide +kernel
theorem d_E_putFrom_40 : decode b_E_putFrom 40 = .ok (.dup, 1) := by decide +kernel
theorem d_E_putFrom_41 : decode b_E_putFrom 41 = .ok (.getfield 26, 3) := by decide +kernel
theorem d_E_putFrom_44 : decode b_E_putFrom 44 = .ok (.aload_n 0, 1) := by decide +kernel
theorem d_E_putFrom_45 : decode b_E_putFrom 45 = .ok (.getfield 36, 3) := by decide +kernel
theorem d_E_putFrom_48 : decode b_E_putFrom 48 = .ok (.iadd, 1) := by decide +kernel
theorem d_E_putFrom_49 : decode b_E_putFrom 49 = .ok (.putfield 26, 3) := by decide +kernel
theorem d_E_putFrom_52 : decode b_E_putFrom 52 = .ok (.return_, 1) := by decide +kernel
theorem d_G_init_0 : decode b_G_init 0 = .ok (.aload_n 0, 1) := by decide +kernel
theorem d_G_init_1 : decode b_G_init 1 = .ok (.invokespecial 1, 3) := by decide +kernel
theorem d_G_init_4 : decode b_G_init 4 = .ok (.aload_n 0, 1) := by decide +kernel
theorem d_G_init_5 : decode b_G_init 5 = .ok (.bipush 8, 2) := by decide +kernel
theorem d_G_init_7 : decode b_G_init 7 = .ok (.anewarray 9, 3) := by decide +kernel
theorem d_G_init_10 : decode b_G_init 10 = .ok (.putfield 11, 3) := by decide +kernel
theorem d_G_init_13 : decode b_G_init 13 = .ok (.aload_n 0, 1) := by decide +kernel
theorem d_G_init_14 : decode b_G_init 14 = .ok (.bipush 12, 2) := by decide +kernel
theorem d_G_init_16 : decode b_G_init 16 = .ok (.anewarray 15, 3) := by decide +kernel
theorem d_G_init_19 : decode b_G_init 19 = .ok (.putfield 17, 3) := by decide +kernel
theorem d_G_init_22 : decode b_G_init 22 = .ok (.aload_n 0, 1) := by decide +kernel
theorem d_G_init_23 : decode b_G_init 23 = .ok (.bipush 8, 2) := by decide +kernel
theorem d_G_init_25 : decode b_G_init 25 = .ok (.newarray .int, 2) := by decide +kernel
theorem d_G_init_27 : decode b_G_init 27 = .ok (.putfield 21, 3) := by decide +kernel
theorem d_G_init_30 : decode b_G_init 30 = .ok (.aload_n 0, 1) := by decide +kernel
theorem d_G_init_31 : decode b_G_init 31 = .ok (.bipush 8, 2) := by decide +kernel
theorem d_G_init_33 : decode b_G_init 33 = .ok (.bipush 8, 2) := by decide +kernel
theorem d_G_init_35 : decode b_G_init 35 = .ok (.multianewarray 25 2, 4) := by decide +kernel
theorem d_G_init_39 : decode b_G_init 39 = .ok (.putfield 27, 3) := by decide +kernel
theorem d_G_init_42 : decode b_G_init 42 = .ok (.aload_n 0, 1) := by decide +kernel
theorem d_G_init_43 : decode b_G_init 43 = .ok (.bipush 64, 2) := by decide +kernel
theorem d_G_init_45 : decode b_G_init 45 = .ok (.newarray .int, 2) := by decide +kernel
theorem d_G_init_47 : decode b_G_init 47 = .ok (.putfield 30, 3) := by decide +kernel
theorem d_G_init_50 : decode b_G_init 50 = .ok (.iconst 0, 1) := by decide +kernel
theorem d_G_init_51 : decode b_G_init 51 = .ok (.istore_n 1, 1) := by decide +kernel
theorem d_G_init_52 : decode b_G_init 52 = .ok (.iload_n 1, 1) := by decide +kernel
theorem d_G_init_53 : decode b_G_init 53 = .ok (.bipush 8, 2) := by decide +kernel
theorem d_G_init_55 : decode b_G_init 55 = .ok (.if_icmp .ge 22, 3) := by decide +kernel
theorem d_G_init_58 : decode b_G_init 58 = .ok (.aload_n 0, 1) := by decide +kernel
theorem d_G_init_59 : decode b_G_init 59 = .ok (.getfield 11, 3) := by decide +kernel
theorem d_G_init_62 : decode b_G_init 62 = .ok (.iload_n 1, 1) := by decide +kernel
theorem d_G_init_63 : decode b_G_init 63 = .ok (.new 9, 3) := by decide +kernel
theorem d_G_init_66 : decode b_G_init 66 = .ok (.dup, 1) := by decide +kernel
theorem d_G_init_67 : decode b_G_init 67 = .ok (.invokespecial 33, 3) := by decide +kernel
theorem d_G_init_70 : decode b_G_init 70 = .ok (.aastore, 1) := by decide +kernel
theorem d_G_init_71 : decode b_G_init 71 = .ok (.iinc 1 1, 3) := by decide +kernel
theorem d_G_init_74 : decode b_G_init 74 = .ok (.goto (-22), 3) := by decide +kernel
theorem d_G_init_77 : decode b_G_init 77 = .ok (.iconst 0, 1) := by decide +kernel
theorem d_G_init_78 : decode b_G_init 78 = .ok (.istore_n 1, 1) := by decide +kernel
theorem d_G_init_79 : decode b_G_init 79 = .ok (.iload_n 1, 1) := by decide +kernel
theorem d_G_init_80 : decode b_G_init 80 = .ok (.bipush 12, 2) := by decide +kernel
theorem d_G_init_82 : decode b_G_init 82 = .ok (.if_icmp .ge 22, 3) := by decide +kernel
theorem d_G_init_85 : decode b_G_init 85 = .ok (.aload_n 0, 1) := by decide +kernel
theorem d_G_init_86 : decode b_G_init 86 = .ok (.getfield 17, 3) := by decide +kernel
theorem d_G_init_89 : decode b_G_init 89 = .ok (.iload_n 1, 1) := by decide +kernel
theorem d_G_init_90 : decode b_G_init 90 = .ok (.new 15, 3) := by decide +kernel
theorem d_G_init_93 : decode b_G_init 93 = .ok (.dup, 1) := by decide +kernel
theorem d_G_init_94 : decode b_G_init 94 = .ok (.invokespecial 34, 3) := by decide +kernel
theorem d_G_init_97 : decode b_G_init 97 = .ok (.aastore, 1) := by decide +kernel
theorem d_G_init_98 : decode b_G_init 98 = .ok (.iinc 1 1, 3) := by decide +kernel
theorem d_G_init_101 : decode b_G_init 101 = .ok (.goto (-22), 3) := by decide +kernel
theorem d_G_init_104 : decode b_G_init 104 = .ok (.return_, 1) := by decide +kernel
theorem d_G_actor_0 : decode b_G_actor 0 = .ok (.iload_n 1, 1) := by decide +kernel
theorem d_G_actor_1 : decode b_G_actor 1 = .ok (.iconst 0, 1) := by decide +kernel
theorem d_G_actor_2 : decode b_G_actor 2 = .ok (.bipush 7, 2) := by decide +kernel
theorem d_G_actor_4 : decode b_G_actor 4 = .ok (.invokestatic 35, 3) := by decide +kernel
theorem d_G_actor_7 : decode b_G_actor 7 = .ok (.ifCond .eq 12, 3) := by decide +kernel
theorem d_G_actor_10 : decode b_G_actor 10 = .ok (.iload_n 2, 1) := by decide +kernel
theorem d_G_actor_11 : decode b_G_actor 11 = .ok (.iconst 0, 1) := by decide +kernel
theorem d_G_actor_12 : decode b_G_actor 12 = .ok (.iconst 3, 1) := by decide +kernel
theorem d_G_actor_13 : decode b_G_actor 13 = .ok (.invokestatic 35, 3) := by decide +kernel
theorem d_G_actor_16 : decode b_G_actor 16 = .ok (.ifCond .ne 5, 3) := by decide +kernel
theorem d_G_actor_19 : decode b_G_actor 19 = .ok (.iconst (-1), 1) := by decide +kernel
theorem d_G_actor_20 : decode b_G_actor 20 = .ok (.ireturn, 1) := by decide +kernel
theorem d_G_actor_21 : decode b_G_actor 21 = .ok (.aload_n 0, 1) := by decide +kernel
theorem d_G_actor_22 : decode b_G_actor 22 = .ok (.getfield 11, 3) := by decide +kernel
theorem d_G_actor_25 : decode b_G_actor 25 = .ok (.iload_n 1, 1) := by decide +kernel
theorem d_G_actor_26 : decode b_G_actor 26 = .ok (.aaload, 1) := by decide +kernel
theorem d_G_actor_27 : decode b_G_actor 27 = .ok (.astore 4, 2) := by decide +kernel
theorem d_G_actor_29 : decode b_G_actor 29 = .ok (.aload 4, 2) := by decide +kernel
theorem d_G_actor_31 : decode b_G_actor 31 = .ok (.iconst 1, 1) := by decide +kernel
theorem d_G_actor_32 : decode b_G_actor 32 = .ok (.putfield 39, 3) := by decide +kernel
theorem d_G_actor_35 : decode b_G_actor 35 = .ok (.aload 4, 2) := by decide +kernel
theorem d_G_actor_37 : decode b_G_actor 37 = .ok (.iload_n 2, 1) := by decide +kernel
theorem d_G_actor_38 : decode b_G_actor 38 = .ok (.putfield 43, 3) := by decide +kernel
theorem d_G_actor_41 : decode b_G_actor 41 = .ok (.aload 4, 2) := by decide +kernel
theorem d_G_actor_43 : decode b_G_actor 43 = .ok (.iload_n 3, 1) := by decide +kernel
theorem d_G_actor_44 : decode b_G_actor 44 = .ok (.putfield 47, 3) := by decide +kernel
theorem d_G_actor_47 : decode b_G_actor 47 = .ok (.aload_n 0, 1) := by decide +kernel
theorem d_G_actor_48 : decode b_G_actor 48 = .ok (.iconst 0, 1) := by decide +kernel
theorem d_G_actor_49 : decode b_G_actor 49 = .ok (.putfield 50, 3) := by decide +kernel
theorem d_G_actor_52 : decode b_G_actor 52 = .ok (.iconst 0, 1) := by decide +kernel
theorem d_G_actor_53 : decode b_G_actor 53 = .ok (.ireturn, 1) := by decide +kernel
theorem d_G_edge_0 : decode b_G_edge 0 = .ok (.aload_n 0, 1) := by decide +kernel
theorem d_G_edge_1 : decode b_G_edge 1 = .ok (.iload_n 1, 1) := by decide +kernel
theorem d_G_edge_2 : decode b_G_edge 2 = .ok (.invokevirtual 53, 3) := by decide +kernel
theorem d_G_edge_5 : decode b_G_edge 5 = .ok (.ifCond .eq 11, 3) := by decide +kernel
theorem d_G_edge_8 : decode b_G_edge 8 = .ok (.aload_n 0, 1) := by decide +kernel
theorem d_G_edge_9 : decode b_G_edge 9 = .ok (.iload_n 2, 1) := by decide +kernel
theorem d_G_edge_10 : decode b_G_edge 10 = .ok (.invokevirtual 53, 3) := by decide +kernel
theorem d_G_edge_13 : decode b_G_edge 13 = .ok (.ifCond .ne 5, 3) := by decide +kernel
theorem d_G_edge_16 : decode b_G_edge 16 = .ok (.iconst (-1), 1) := by decide +kernel
theorem d_G_edge_17 : decode b_G_edge 17 = .ok (.ireturn, 1) := by decide +kernel
theorem d_G_edge_18 : decode b_G_edge 18 = .ok (.iload_n 3, 1) := by decide +kernel
theorem d_G_edge_19 : decode b_G_edge 19 = .ok (.iconst 1, 1) := by decide +kernel
theorem d_G_edge_20 : decode b_G_edge 20 = .ok (.bipush 6, 2) := by decide +kernel
theorem d_G_edge_22 : decode b_G_edge 22 = .ok (.invokestatic 35, 3) := by decide +kernel
theorem d_G_edge_25 : decode b_G_edge 25 = .ok (.ifCond .eq 25, 3) := by decide +kernel
theorem d_G_edge_28 : decode b_G_edge 28 = .ok (.iload 4, 2) := by decide +kernel
theorem d_G_edge_30 : decode b_G_edge 30 = .ok (.iconst 1, 1) := by decide +kernel
theorem d_G_edge_31 : decode b_G_edge 31 = .ok (.bipush 6, 2) := by decide +kernel
theorem d_G_edge_33 : decode b_G_edge 33 = .ok (.invokestatic 35, 3) := by decide +kernel
theorem d_G_edge_36 : decode b_G_edge 36 = .ok (.ifCond .eq 14, 3) := by decide +kernel
theorem d_G_edge_39 : decode b_G_edge 39 = .ok (.iload 5, 2) := by decide +kernel
theorem d_G_edge_41 : decode b_G_edge 41 = .ok (.iconst 0, 1) := by decide +kernel
theorem d_G_edge_42 : decode b_G_edge 42 = .ok (.bipush 12, 2) := by decide +kernel
theorem d_G_edge_44 : decode b_G_edge 44 = .ok (.invokestatic 35, 3) := by decide +kernel
theorem d_G_edge_47 : decode b_G_edge 47 = .ok (.ifCond .ne 5, 3) := by decide +kernel
theorem d_G_edge_50 : decode b_G_edge 50 = .ok (.iconst (-1), 1) := by decide +kernel
theorem d_G_edge_51 : decode b_G_edge 51 = .ok (.ireturn, 1) := by decide +kernel
theorem d_G_edge_52 : decode b_G_edge 52 = .ok (.aload_n 0, 1) := by decide +kernel
theorem d_G_edge_53 : decode b_G_edge 53 = .ok (.getfield 57, 3) := by decide +kernel
theorem d_G_edge_56 : decode b_G_edge 56 = .ok (.bipush 12, 2) := by decide +kernel
theorem d_G_edge_58 : decode b_G_edge 58 = .ok (.if_icmp .lt 6, 3) := by decide +kernel
theorem d_G_edge_61 : decode b_G_edge 61 = .ok (.bipush (-2), 2) := by decide +kernel
theorem d_G_edge_63 : decode b_G_edge 63 = .ok (.ireturn, 1) := by decide +kernel
theorem d_G_edge_64 : decode b_G_edge 64 = .ok (.aload_n 0, 1) := by decide +kernel
theorem d_G_edge_65 : decode b_G_edge 65 = .ok (.getfield 17, 3) := by decide +kernel
theorem d_G_edge_68 : decode b_G_edge 68 = .ok (.aload_n 0, 1) := by decide +kernel
theorem d_G_edge_69 : decode b_G_edge 69 = .ok (.getfield 57, 3) := by decide +kernel
theorem d_G_edge_72 : decode b_G_edge 72 = .ok (.aaload, 1) := by decide +kernel
theorem d_G_edge_73 : decode b_G_edge 73 = .ok (.astore 6, 2) := by decide +kernel
theorem d_G_edge_75 : decode b_G_edge 75 = .ok (.aload 6, 2) := by decide +kernel
theorem d_G_edge_77 : decode b_G_edge 77 = .ok (.iload_n 1, 1) := by decide +kernel
theorem d_G_edge_78 : decode b_G_edge 78 = .ok (.putfield 60, 3) := by decide +kernel
theorem d_G_edge_81 : decode b_G_edge 81 = .ok (.aload 6, 2) := by decide +kernel
theorem d_G_edge_83 : decode b_G_edge 83 = .ok (.iload_n 2, 1) := by decide +kernel
theorem d_G_edge_84 : decode b_G_edge 84 = .ok (.putfield 63, 3) := by decide +kernel
theorem d_G_edge_87 : decode b_G_edge 87 = .ok (.aload 6, 2) := by decide +kernel
theorem d_G_edge_89 : decode b_G_edge 89 = .ok (.iload_n 3, 1) := by decide +kernel
theorem d_G_edge_90 : decode b_G_edge 90 = .ok (.putfield 66, 3) := by decide +kernel
theorem d_G_edge_93 : decode b_G_edge 93 = .ok (.aload 6, 2) := by decide +kernel
theorem d_G_edge_95 : decode b_G_edge 95 = .ok (.iload 4, 2) := by decide +kernel
theorem d_G_edge_97 : decode b_G_edge 97 = .ok (.putfield 69, 3) := by decide +kernel
theorem d_G_edge_100 : decode b_G_edge 100 = .ok (.aload 6, 2) := by decide +kernel
theorem d_G_edge_102 : decode b_G_edge 102 = .ok (.iload 5, 2) := by decide +kernel
theorem d_G_edge_104 : decode b_G_edge 104 = .ok (.putfield 72, 3) := by decide +kernel
theorem d_G_edge_107 : decode b_G_edge 107 = .ok (.aload_n 0, 1) := by decide +kernel
theorem d_G_edge_108 : decode b_G_edge 108 = .ok (.iconst 0, 1) := by decide +kernel
theorem d_G_edge_109 : decode b_G_edge 109 = .ok (.putfield 50, 3) := by decide +kernel
theorem d_G_edge_112 : decode b_G_edge 112 = .ok (.aload_n 0, 1) := by decide +kernel
theorem d_G_edge_113 : decode b_G_edge 113 = .ok (.dup, 1) := by decide +kernel
theorem d_G_edge_114 : decode b_G_edge 114 = .ok (.getfield 57, 3) := by decide +kernel
theorem d_G_edge_117 : decode b_G_edge 117 = .ok (.iconst 1, 1) := by decide +kernel
theorem d_G_edge_118 : decode b_G_edge 118 = .ok (.iadd, 1) := by decide +kernel
theorem d_G_edge_119 : decode b_G_edge 119 = .ok (.putfield 57, 3) := by decide +kernel
theorem d_G_edge_122 : decode b_G_edge 122 = .ok (.aload_n 0, 1) := by decide +kernel
theorem d_G_edge_123 : decode b_G_edge 123 = .ok (.getfield 57, 3) := by decide +kernel
theorem d_G_edge_126 : decode b_G_edge 126 = .ok (.iconst 1, 1) := by decide +kernel
theorem d_G_edge_127 : decode b_G_edge 127 = .ok (.isub, 1) := by decide +kernel
theorem d_G_edge_128 : decode b_G_edge 128 = .ok (.ireturn, 1) := by decide +kernel
theorem d_G_unedge_0 : decode b_G_unedge 0 = .ok (.aload_n 0, 1) := by decide +kernel
theorem d_G_unedge_1 : decode b_G_unedge 1 = .ok (.iload_n 1, 1) := by decide +kernel
theorem d_G_unedge_2 : decode b_G_unedge 2 = .ok (.invokevirtual 75, 3) := by decide +kernel
theorem d_G_unedge_5 : decode b_G_unedge 5 = .ok (.ifCond .ne 5, 3) := by decide +kernel
theorem d_G_unedge_8 : decode b_G_unedge 8 = .ok (.iconst (-1), 1) := by decide +kernel
theorem d_G_unedge_9 : decode b_G_unedge 9 = .ok (.ireturn, 1) := by decide +kernel
theorem d_G_unedge_10 : decode b_G_unedge 10 = .ok (.aload_n 0, 1) := by decide +kernel
theorem d_G_unedge_11 : decode b_G_unedge 11 = .ok (.getfield 17, 3) := by decide +kernel
theorem d_G_unedge_14 : decode b_G_unedge 14 = .ok (.iload_n 1, 1) := by decide +kernel
theorem d_G_unedge_15 : decode b_G_unedge 15 = .ok (.aaload, 1) := by decide +kernel
theorem d_G_unedge_16 : decode b_G_unedge 16 = .ok (.astore_n 2, 1) := by decide +kernel
theorem d_G_unedge_17 : decode b_G_unedge 17 = .ok (.iload_n 1, 1) := by decide +kernel
theorem d_G_unedge_18 : decode b_G_unedge 18 = .ok (.istore_n 3, 1) := by decide +kernel
theorem d_G_unedge_19 : decode b_G_unedge 19 = .ok (.iload_n 3, 1) := by decide +kernel
theorem d_G_unedge_20 : decode b_G_unedge 20 = .ok (.aload_n 0, 1) := by decide +kernel
theorem d_G_unedge_21 : decode b_G_unedge 21 = .ok (.getfield 57, 3) := by decide +kernel
theorem d_G_unedge_24 : decode b_G_unedge 24 = .ok (.iconst 1, 1) := by decide +kernel
theorem d_G_unedge_25 : decode b_G_unedge 25 = .ok (.isub, 1) := by decide +kernel
theorem d_G_unedge_26 : decode b_G_unedge 26 = .ok (.if_icmp .ge 23, 3) := by decide +kernel
theorem d_G_unedge_29 : decode b_G_unedge 29 = .ok (.aload_n 0, 1) := by decide +kernel
theorem d_G_unedge_30 : decode b_G_unedge 30 = .ok (.getfield 17, 3) := by decide +kernel
theorem d_G_unedge_33 : decode b_G_unedge 33 = .ok (.iload_n 3, 1) := by decide +kernel
theorem d_G_unedge_34 : decode b_G_unedge 34 = .ok (.aload_n 0, 1) := by decide +kernel
theorem d_G_unedge_35 : decode b_G_unedge 35 = .ok (.getfield 17, 3) := by decide +kernel
theorem d_G_unedge_38 : decode b_G_unedge 38 = .ok (.iload_n 3, 1) := by decide +kernel
theorem d_G_unedge_39 : decode b_G_unedge 39 = .ok (.iconst 1, 1) := by decide +kernel
theorem d_G_unedge_40 : decode b_G_unedge 40 = .ok (.iadd, 1) := by decide +kernel
theorem d_G_unedge_41 : decode b_G_unedge 41 = .ok (.aaload, 1) := by decide +kernel
theorem d_G_unedge_42 : decode b_G_unedge 42 = .ok (.aastore, 1) := by decide +kernel
theorem d_G_unedge_43 : decode b_G_unedge 43 = .ok (.iinc 3 1, 3) := by decide +kernel
theorem d_G_unedge_46 : decode b_G_unedge 46 = .ok (.goto (-27), 3) := by decide +kernel
theorem d_G_unedge_49 : decode b_G_unedge 49 = .ok (.aload_n 0, 1) := by decide +kernel
theorem d_G_unedge_50 : decode b_G_unedge 50 = .ok (.getfield 17, 3) := by decide +kernel
theorem d_G_unedge_53 : decode b_G_unedge 53 = .ok (.aload_n 0, 1) := by decide +kernel
theorem d_G_unedge_54 : decode b_G_unedge 54 = .ok (.getfield 57, 3) := by decide +kernel
theorem d_G_unedge_57 : decode b_G_unedge 57 = .ok (.iconst 1, 1) := by decide +kernel
theorem d_G_unedge_58 : decode b_G_unedge 58 = .ok (.isub, 1) := by decide +kernel
theorem d_G_unedge_59 : decode b_G_unedge 59 = .ok (.aload_n 2, 1) := by decide +kernel
theorem d_G_unedge_60 : decode b_G_unedge 60 = .ok (.aastore, 1) := by decide +kernel
theorem d_G_unedge_61 : decode b_G_unedge 61 = .ok (.aload_n 0, 1) := by decide +kernel
theorem d_G_unedge_62 : decode b_G_unedge 62 = .ok (.dup, 1) := by decide +kernel
theorem d_G_unedge_63 : decode b_G_unedge 63 = .ok (.getfield 57, 3) := by decide +kernel
theorem d_G_unedge_66 : decode b_G_unedge 66 = .ok (.iconst 1, 1) := by decide +kernel
theorem d_G_unedge_67 : decode b_G_unedge 67 = .ok (.isub, 1) := by decide +kernel
theorem d_G_unedge_68 : decode b_G_unedge 68 = .ok (.putfield 57, 3) := by decide +kernel
theorem d_G_unedge_71 : decode b_G_unedge 71 = .ok (.aload_n 0, 1) := by decide +kernel
theorem d_G_unedge_72 : decode b_G_unedge 72 = .ok (.iconst 0, 1) := by decide +kernel
theorem d_G_unedge_73 : decode b_G_unedge 73 = .ok (.putfield 50, 3) := by decide +kernel
theorem d_G_unedge_76 : decode b_G_unedge 76 = .ok (.aload_n 0, 1) := by decide +kernel
theorem d_G_unedge_77 : decode b_G_unedge 77 = .ok (.getfield 57, 3) := by decide +kernel
theorem d_G_unedge_80 : decode b_G_unedge 80 = .ok (.ireturn, 1) := by decide +kernel
theorem d_G_solve_0 : decode b_G_solve 0 = .ok (.iload_n 1, 1) := by decide +kernel
theorem d_G_solve_1 : decode b_G_solve 1 = .ok (.iconst 0, 1) := by decide +kernel
theorem d_G_solve_2 : decode b_G_solve 2 = .ok (.iconst 2, 1) := by decide +kernel
theorem d_G_solve_3 : decode b_G_solve 3 = .ok (.invokestatic 35, 3) := by decide +kernel
theorem d_G_solve_6 : decode b_G_solve 6 = .ok (.ifCond .ne 5, 3) := by decide +kernel
theorem d_G_solve_9 : decode b_G_solve 9 = .ok (.iconst (-1), 1) := by decide +kernel
theorem d_G_solve_10 : decode b_G_solve 10 = .ok (.ireturn, 1) := by decide +kernel
theorem d_G_solve_11 : decode b_G_solve 11 = .ok (.aload_n 0, 1) := by decide +kernel
theorem d_G_solve_12 : decode b_G_solve 12 = .ok (.invokevirtual 78, 3) := by decide +kernel
theorem d_G_solve_15 : decode b_G_solve 15 = .ok (.ifCond .ne 6, 3) := by decide +kernel
theorem d_G_solve_18 : decode b_G_solve 18 = .ok (.bipush (-4), 2) := by decide +kernel
theorem d_G_solve_20 : decode b_G_solve 20 = .ok (.ireturn, 1) := by decide +kernel
theorem d_G_solve_21 : decode b_G_solve 21 = .ok (.aload_n 0, 1) := by decide +kernel
theorem d_G_solve_22 : decode b_G_solve 22 = .ok (.iconst 0, 1) := by decide +kernel
theorem d_G_solve_23 : decode b_G_solve 23 = .ok (.putfield 50, 3) := by decide +kernel
theorem d_G_solve_26 : decode b_G_solve 26 = .ok (.aload_n 0, 1) := by decide +kernel
theorem d_G_solve_27 : decode b_G_solve 27 = .ok (.invokevirtual 82, 3) := by decide +kernel
theorem d_G_solve_30 : decode b_G_solve 30 = .ok (.istore_n 2, 1) := by decide +kernel
theorem d_G_solve_31 : decode b_G_solve 31 = .ok (.iload_n 2, 1) := by decide +kernel
theorem d_G_solve_32 : decode b_G_solve 32 = .ok (.iconst (-1), 1) := by decide +kernel
theorem d_G_solve_33 : decode b_G_solve 33 = .ok (.if_icmp .eq 8, 3) := by decide +kernel
theorem d_G_solve_36 : decode b_G_solve 36 = .ok (.bipush (-100), 2) := by decide +kernel
theorem d_G_solve_38 : decode b_G_solve 38 = .ok (.iload_n 2, 1) := by decide +kernel
theorem d_G_solve_39 : decode b_G_solve 39 = .ok (.isub, 1) := by decide +kernel
theorem d_G_solve_40 : decode b_G_solve 40 = .ok (.ireturn, 1) := by decide +kernel
theorem d_G_solve_41 : decode b_G_solve 41 = .ok (.aload_n 0, 1) := by decide +kernel
theorem d_G_solve_42 : decode b_G_solve 42 = .ok (.invokevirtual 85, 3) := by decide +kernel
theorem d_G_solve_45 : decode b_G_solve 45 = .ok (.istore_n 3, 1) := by decide +kernel
theorem d_G_solve_46 : decode b_G_solve 46 = .ok (.iload_n 3, 1) := by decide +kernel
theorem d_G_solve_47 : decode b_G_solve 47 = .ok (.bipush 64, 2) := by decide +kernel
theorem d_G_solve_49 : decode b_G_solve 49 = .ok (.if_icmp .le 6, 3) := by decide +kernel
theorem d_G_solve_52 : decode b_G_solve 52 = .ok (.bipush (-3), 2) := by decide +kernel
theorem d_G_solve_54 : decode b_G_solve 54 = .ok (.ireturn, 1) := by decide +kernel
theorem d_G_solve_55 : decode b_G_solve 55 = .ok (.aload_n 0, 1) := by decide +kernel
theorem d_G_solve_56 : decode b_G_solve 56 = .ok (.iload_n 3, 1) := by decide +kernel
theorem d_G_solve_57 : decode b_G_solve 57 = .ok (.putfield 88, 3) := by decide +kernel
theorem d_G_solve_60 : decode b_G_solve 60 = .ok (.aload_n 0, 1) := by decide +kernel
theorem d_G_solve_61 : decode b_G_solve 61 = .ok (.iload_n 1, 1) := by decide +kernel
theorem d_G_solve_62 : decode b_G_solve 62 = .ok (.invokevirtual 91, 3) := by decide +kernel
theorem d_G_solve_65 : decode b_G_solve 65 = .ok (.istore 4, 2) := by decide +kernel
theorem d_G_solve_67 : decode b_G_solve 67 = .ok (.iload 4, 2) := by decide +kernel
theorem d_G_solve_69 : decode b_G_solve 69 = .ok (.iconst (-1), 1) := by decide +kernel
theorem d_G_solve_70 : decode b_G_solve 70 = .ok (.if_icmp .eq 10, 3) := by decide +kernel
theorem d_G_solve_73 : decode b_G_solve 73 = .ok (.sipush (-200), 3) := by decide +kernel
theorem d_G_solve_76 : decode b_G_solve 76 = .ok (.iload 4, 2) := by decide +kernel
theorem d_G_solve_78 : decode b_G_solve 78 = .ok (.isub, 1) := by decide +kernel
theorem d_G_solve_79 : decode b_G_solve 79 = .ok (.ireturn, 1) := by decide +kernel
theorem d_G_solve_80 : decode b_G_solve 80 = .ok (.aload_n 0, 1) := by decide +kernel
theorem d_G_solve_81 : decode b_G_solve 81 = .ok (.invokevirtual 95, 3) := by decide +kernel
theorem d_G_solve_84 : decode b_G_solve 84 = .ok (.aload_n 0, 1) := by decide +kernel
theorem d_G_solve_85 : decode b_G_solve 85 = .ok (.iconst 1, 1) := by decide +kernel
theorem d_G_solve_86 : decode b_G_solve 86 = .ok (.putfield 50, 3) := by decide +kernel
theorem d_G_solve_89 : decode b_G_solve 89 = .ok (.aload_n 0, 1) := by decide +kernel
theorem d_G_solve_90 : decode b_G_solve 90 = .ok (.getfield 88, 3) := by decide +kernel
theorem d_G_solve_93 : decode b_G_solve 93 = .ok (.ireturn, 1) := by decide +kernel
theorem d_G_run_0 : decode b_G_run 0 = .ok (.iload_n 1, 1) := by decide +kernel
theorem d_G_run_1 : decode b_G_run 1 = .ok (.iconst 1, 1) := by decide +kernel
theorem d_G_run_2 : decode b_G_run 2 = .ok (.bipush 8, 2) := by decide +kernel
theorem d_G_run_4 : decode b_G_run 4 = .ok (.invokestatic 35, 3) := by decide +kernel
theorem d_G_run_7 : decode b_G_run 7 = .ok (.ifCond .ne 5, 3) := by decide +kernel
theorem d_G_run_10 : decode b_G_run 10 = .ok (.iconst (-1), 1) := by decide +kernel
theorem d_G_run_11 : decode b_G_run 11 = .ok (.ireturn, 1) := by decide +kernel
theorem d_G_run_12 : decode b_G_run 12 = .ok (.aload_n 0, 1) := by decide +kernel
theorem d_G_run_13 : decode b_G_run 13 = .ok (.getfield 50, 3) := by decide +kernel
theorem d_G_run_16 : decode b_G_run 16 = .ok (.ifCond .ne 6, 3) := by decide +kernel
theorem d_G_run_19 : decode b_G_run 19 = .ok (.bipush (-4), 2) := by decide +kernel
theorem d_G_run_21 : decode b_G_run 21 = .ok (.ireturn, 1) := by decide +kernel
theorem d_G_run_22 : decode b_G_run 22 = .ok (.iconst 0, 1) := by decide +kernel
theorem d_G_run_23 : decode b_G_run 23 = .ok (.istore_n 2, 1) := by decide +kernel
theorem d_G_run_24 : decode b_G_run 24 = .ok (.iload_n 2, 1) := by decide +kernel
theorem d_G_run_25 : decode b_G_run 25 = .ok (.iload_n 1, 1) := by decide +kernel
theorem d_G_run_26 : decode b_G_run 26 = .ok (.if_icmp .ge 35, 3) := by decide +kernel
theorem d_G_run_29 : decode b_G_run 29 = .ok (.iconst 0, 1) := by decide +kernel
theorem d_G_run_30 : decode b_G_run 30 = .ok (.istore_n 3, 1) := by decide +kernel
theorem d_G_run_31 : decode b_G_run 31 = .ok (.iload_n 3, 1) := by decide +kernel
theorem d_G_run_32 : decode b_G_run 32 = .ok (.aload_n 0, 1) := by decide +kernel
theorem d_G_run_33 : decode b_G_run 33 = .ok (.getfield 88, 3) := by decide +kernel
theorem d_G_run_36 : decode b_G_run 36 = .ok (.if_icmp .ge 19, 3) := by decide +kernel
theorem d_G_run_39 : decode b_G_run 39 = .ok (.aload_n 0, 1) := by decide +kernel
theorem d_G_run_40 : decode b_G_run 40 = .ok (.aload_n 0, 1) := by decide +kernel
theorem d_G_run_41 : decode b_G_run 41 = .ok (.getfield 30, 3) := by decide +kernel
theorem d_G_run_44 : decode b_G_run 44 = .ok (.iload_n 3, 1) := by decide +kernel
theorem d_G_run_45 : decode b_G_run 45 = .ok (.iaload, 1) := by decide +kernel
theorem d_G_run_46 : decode b_G_run 46 = .ok (.invokevirtual 98, 3) := by decide +kernel
theorem d_G_run_49 : decode b_G_run 49 = .ok (.iinc 3 1, 3) := by decide +kernel
theorem d_G_run_52 : decode b_G_run 52 = .ok (.goto (-21), 3) := by decide +kernel
theorem d_G_run_55 : decode b_G_run 55 = .ok (.iinc 2 1, 3) := by decide +kernel
theorem d_G_run_58 : decode b_G_run 58 = .ok (.goto (-34), 3) := by decide +kernel
theorem d_G_run_61 : decode b_G_run 61 = .ok (.aload_n 0, 1) := by decide +kernel
theorem d_G_run_62 : decode b_G_run 62 = .ok (.dup, 1) := by decide +kernel
theorem d_G_run_63 : decode b_G_run 63 = .ok (.getfield 102, 3) := by decide +kernel
theorem d_G_run_66 : decode b_G_run 66 = .ok (.iload_n 1, 1) := by decide +kernel
theorem d_G_run_67 : decode b_G_run 67 = .ok (.aload_n 0, 1) := by decide +kernel
theorem d_G_run_68 : decode b_G_run 68 = .ok (.getfield 88, 3) := by decide +kernel
theorem d_G_run_71 : decode b_G_run 71 = .ok (.imul, 1) := by decide +kernel
theorem d_G_run_72 : decode b_G_run 72 = .ok (.iadd, 1) := by decide +kernel
theorem d_G_run_73 : decode b_G_run 73 = .ok (.putfield 102, 3) := by decide +kernel
theorem d_G_run_76 : decode b_G_run 76 = .ok (.iload_n 1, 1) := by decide +kernel
theorem d_G_run_77 : decode b_G_run 77 = .ok (.aload_n 0, 1) := by decide +kernel
theorem d_G_run_78 : decode b_G_run 78 = .ok (.getfield 88, 3) := by decide +kernel
theorem d_G_run_81 : decode b_G_run 81 = .ok (.imul, 1) := by decide +kernel
theorem d_G_run_82 : decode b_G_run 82 = .ok (.ireturn, 1) := by decide +kernel
theorem d_G_repetitions_0 : decode b_G_repetitions 0 = .ok (.aload_n 0, 1) := by decide +kernel
theorem d_G_repetitions_1 : decode b_G_repetitions 1 = .ok (.iload_n 1, 1) := by decide +kernel
theorem d_G_repetitions_2 : decode b_G_repetitions 2 = .ok (.invokevirtual 53, 3) := by decide +kernel
theorem d_G_repetitions_5 : decode b_G_repetitions 5 = .ok (.ifCond .ne 5, 3) := by decide +kernel
theorem d_G_repetitions_8 : decode b_G_repetitions 8 = .ok (.iconst (-1), 1) := by decide +kernel
theorem d_G_repetitions_9 : decode b_G_repetitions 9 = .ok (.ireturn, 1) := by decide +kernel
theorem d_G_repetitions_10 : decode b_G_repetitions 10 = .ok (.aload_n 0, 1) := by decide +kernel
theorem d_G_repetitions_11 : decode b_G_repetitions 11 = .ok (.getfield 50, 3) := by decide +kernel
theorem d_G_repetitions_14 : decode b_G_repetitions 14 = .ok (.ifCond .eq 15, 3) := by decide +kernel
theorem d_G_repetitions_17 : decode b_G_repetitions 17 = .ok (.aload_n 0, 1) := by decide +kernel
theorem d_G_repetitions_18 : decode b_G_repetitions 18 = .ok (.getfield 11, 3) := by decide +kernel
theorem d_G_repetitions_21 : decode b_G_repetitions 21 = .ok (.iload_n 1, 1) := by decide +kernel
theorem d_G_repetitions_22 : decode b_G_repetitions 22 = .ok (.aaload, 1) := by decide +kernel
theorem d_G_repetitions_23 : decode b_G_repetitions 23 = .ok (.getfield 105, 3) := by decide +kernel
theorem d_G_repetitions_26 : decode b_G_repetitions 26 = .ok (.goto 5, 3) := by decide +kernel
theorem d_G_repetitions_29 : decode b_G_repetitions 29 = .ok (.bipush (-4), 2) := by decide +kernel
theorem d_G_repetitions_31 : decode b_G_repetitions 31 = .ok (.ireturn, 1) := by decide +kernel
theorem d_G_schedule_0 : decode b_G_schedule 0 = .ok (.aload_n 0, 1) := by decide +kernel
theorem d_G_schedule_1 : decode b_G_schedule 1 = .ok (.getfield 50, 3) := by decide +kernel
theorem d_G_schedule_4 : decode b_G_schedule 4 = .ok (.ifCond .ne 6, 3) := by decide +kernel
theorem d_G_schedule_7 : decode b_G_schedule 7 = .ok (.bipush (-4), 2) := by decide +kernel
theorem d_G_schedule_9 : decode b_G_schedule 9 = .ok (.ireturn, 1) := by decide +kernel
theorem d_G_schedule_10 : decode b_G_schedule 10 = .ok (.iload_n 1, 1) := by decide +kernel
theorem d_G_schedule_11 : decode b_G_schedule 11 = .ok (.iconst 0, 1) := by decide +kernel
theorem d_G_schedule_12 : decode b_G_schedule 12 = .ok (.aload_n 0, 1) := by decide +kernel
theorem d_G_schedule_13 : decode b_G_schedule 13 = .ok (.getfield 88, 3) := by decide +kernel
theorem d_G_schedule_16 : decode b_G_schedule 16 = .ok (.iconst 1, 1) := by decide +kernel
theorem d_G_schedule_17 : decode b_G_schedule 17 = .ok (.isub, 1) := by decide +kernel
theorem d_G_schedule_18 : decode b_G_schedule 18 = .ok (.invokestatic 35, 3) := by decide +kernel
theorem d_G_schedule_21 : decode b_G_schedule 21 = .ok (.ifCond .eq 12, 3) := by decide +kernel
theorem d_G_schedule_24 : decode b_G_schedule 24 = .ok (.aload_n 0, 1) := by decide +kernel
theorem d_G_schedule_25 : decode b_G_schedule 25 = .ok (.getfield 30, 3) := by decide +kernel
theorem d_G_schedule_28 : decode b_G_schedule 28 = .ok (.iload_n 1, 1) := by decide +kernel
theorem d_G_schedule_29 : decode b_G_schedule 29 = .ok (.iaload, 1) := by decide +kernel
theorem d_G_schedule_30 : decode b_G_schedule 30 = .ok (.goto 4, 3) := by decide +kernel
theorem d_G_schedule_33 : decode b_G_schedule 33 = .ok (.iconst (-1), 1) := by decide +kernel
theorem d_G_schedule_34 : decode b_G_schedule 34 = .ok (.ireturn, 1) := by decide +kernel
theorem d_G_peak_0 : decode b_G_peak 0 = .ok (.aload_n 0, 1) := by decide +kernel
theorem d_G_peak_1 : decode b_G_peak 1 = .ok (.iload_n 1, 1) := by decide +kernel
theorem d_G_peak_2 : decode b_G_peak 2 = .ok (.invokevirtual 75, 3) := by decide +kernel
theorem d_G_peak_5 : decode b_G_peak 5 = .ok (.ifCond .ne 5, 3) := by decide +kernel
theorem d_G_peak_8 : decode b_G_peak 8 = .ok (.iconst (-1), 1) := by decide +kernel
theorem d_G_peak_9 : decode b_G_peak 9 = .ok (.ireturn, 1) := by decide +kernel
theorem d_G_peak_10 : decode b_G_peak 10 = .ok (.aload_n 0, 1) := by decide +kernel
theorem d_G_peak_11 : decode b_G_peak 11 = .ok (.getfield 50, 3) := by decide +kernel
theorem d_G_peak_14 : decode b_G_peak 14 = .ok (.ifCond .eq 15, 3) := by decide +kernel
theorem d_G_peak_17 : decode b_G_peak 17 = .ok (.aload_n 0, 1) := by decide +kernel
theorem d_G_peak_18 : decode b_G_peak 18 = .ok (.getfield 17, 3) := by decide +kernel
theorem d_G_peak_21 : decode b_G_peak 21 = .ok (.iload_n 1, 1) := by decide +kernel
theorem d_G_peak_22 : decode b_G_peak 22 = .ok (.aaload, 1) := by decide +kernel
theorem d_G_peak_23 : decode b_G_peak 23 = .ok (.getfield 108, 3) := by decide +kernel
theorem d_G_peak_26 : decode b_G_peak 26 = .ok (.goto 5, 3) := by decide +kernel
theorem d_G_peak_29 : decode b_G_peak 29 = .ok (.bipush (-4), 2) := by decide +kernel
theorem d_G_peak_31 : decode b_G_peak 31 = .ok (.ireturn, 1) := by decide +kernel
theorem d_G_nested_0 : decode b_G_nested 0 = .ok (.aload_n 0, 1) := by decide +kernel
theorem d_G_nested_1 : decode b_G_nested 1 = .ok (.getfield 50, 3) := by decide +kernel
theorem d_G_nested_4 : decode b_G_nested 4 = .ok (.ifCond .eq 10, 3) := by decide +kernel
theorem d_G_nested_7 : decode b_G_nested 7 = .ok (.aload_n 0, 1) := by decide +kernel
theorem d_G_nested_8 : decode b_G_nested 8 = .ok (.invokevirtual 111, 3) := by decide +kernel
theorem d_G_nested_11 : decode b_G_nested 11 = .ok (.ifCond .ne 6, 3) := by decide +kernel
theorem d_G_nested_14 : decode b_G_nested 14 = .ok (.bipush (-4), 2) := by decide +kernel
theorem d_G_nested_16 : decode b_G_nested 16 = .ok (.ireturn, 1) := by decide +kernel
theorem d_G_nested_17 : decode b_G_nested 17 = .ok (.aload_n 0, 1) := by decide +kernel
theorem d_G_nested_18 : decode b_G_nested 18 = .ok (.invokevirtual 115, 3) := by decide +kernel
theorem d_G_nested_21 : decode b_G_nested 21 = .ok (.ireturn, 1) := by decide +kernel
theorem d_G_latest_0 : decode b_G_latest 0 = .ok (.aload_n 0, 1) := by decide +kernel
theorem d_G_latest_1 : decode b_G_latest 1 = .ok (.getfield 50, 3) := by decide +kernel
theorem d_G_latest_4 : decode b_G_latest 4 = .ok (.ifCond .eq 24, 3) := by decide +kernel
theorem d_G_latest_7 : decode b_G_latest 7 = .ok (.aload_n 0, 1) := by decide +kernel
theorem d_G_latest_8 : decode b_G_latest 8 = .ok (.iload_n 1, 1) := by decide +kernel
theorem d_G_latest_9 : decode b_G_latest 9 = .ok (.invokevirtual 53, 3) := by decide +kernel
theorem d_G_latest_12 : decode b_G_latest 12 = .ok (.ifCond .eq 16, 3) := by decide +kernel
theorem d_G_latest_15 : decode b_G_latest 15 = .ok (.aload_n 0, 1) := by decide +kernel
theorem d_G_latest_16 : decode b_G_latest 16 = .ok (.getfield 11, 3) := by decide +kernel
theorem d_G_latest_19 : decode b_G_latest 19 = .ok (.iload_n 1, 1) := by decide +kernel
theorem d_G_latest_20 : decode b_G_latest 20 = .ok (.aaload, 1) := by decide +kernel
theorem d_G_latest_21 : decode b_G_latest 21 = .ok (.getfield 118, 3) := by decide +kernel
theorem d_G_latest_24 : decode b_G_latest 24 = .ok (.i2l, 1) := by decide +kernel
theorem d_G_latest_25 : decode b_G_latest 25 = .ok (.goto 6, 3) := by decide +kernel
theorem d_G_latest_28 : decode b_G_latest 28 = .ok (.ldc2_w 121, 3) := by decide +kernel
theorem d_G_latest_31 : decode b_G_latest 31 = .ok (.lreturn, 1) := by decide +kernel
theorem d_G_token_0 : decode b_G_token 0 = .ok (.aload_n 0, 1) := by decide +kernel
theorem d_G_token_1 : decode b_G_token 1 = .ok (.getfield 50, 3) := by decide +kernel
theorem d_G_token_4 : decode b_G_token 4 = .ok (.ifCond .eq 11, 3) := by decide +kernel
theorem d_G_token_7 : decode b_G_token 7 = .ok (.aload_n 0, 1) := by decide +kernel
theorem d_G_token_8 : decode b_G_token 8 = .ok (.iload_n 1, 1) := by decide +kernel
theorem d_G_token_9 : decode b_G_token 9 = .ok (.invokevirtual 75, 3) := by decide +kernel
theorem d_G_token_12 : decode b_G_token 12 = .ok (.ifCond .ne 7, 3) := by decide +kernel
theorem d_G_token_15 : decode b_G_token 15 = .ok (.ldc2_w 121, 3) := by decide +kernel
theorem d_G_token_18 : decode b_G_token 18 = .ok (.lreturn, 1) := by decide +kernel
theorem d_G_token_19 : decode b_G_token 19 = .ok (.aload_n 0, 1) := by decide +kernel
theorem d_G_token_20 : decode b_G_token 20 = .ok (.getfield 17, 3) := by decide +kernel
theorem d_G_token_23 : decode b_G_token 23 = .ok (.iload_n 1, 1) := by decide +kernel
theorem d_G_token_24 : decode b_G_token 24 = .ok (.aaload, 1) := by decide +kernel
theorem d_G_token_25 : decode b_G_token 25 = .ok (.astore_n 3, 1) := by decide +kernel
theorem d_G_token_26 : decode b_G_token 26 = .ok (.iload_n 2, 1) := by decide +kernel
theorem d_G_token_27 : decode b_G_token 27 = .ok (.iconst 0, 1) := by decide +kernel
theorem d_G_token_28 : decode b_G_token 28 = .ok (.aload_n 3, 1) := by decide +kernel
theorem d_G_token_29 : decode b_G_token 29 = .ok (.getfield 123, 3) := by decide +kernel
theorem d_G_token_32 : decode b_G_token 32 = .ok (.iconst 1, 1) := by decide +kernel
theorem d_G_token_33 : decode b_G_token 33 = .ok (.isub, 1) := by decide +kernel
theorem d_G_token_34 : decode b_G_token 34 = .ok (.invokestatic 35, 3) := by decide +kernel
theorem d_G_token_37 : decode b_G_token 37 = .ok (.ifCond .eq 12, 3) := by decide +kernel
theorem d_G_token_40 : decode b_G_token 40 = .ok (.aload_n 3, 1) := by decide +kernel
theorem d_G_token_41 : decode b_G_token 41 = .ok (.iload_n 2, 1) := by decide +kernel
theorem d_G_token_42 : decode b_G_token 42 = .ok (.invokevirtual 126, 3) := by decide +kernel
theorem d_G_token_45 : decode b_G_token 45 = .ok (.i2l, 1) := by decide +kernel
theorem d_G_token_46 : decode b_G_token 46 = .ok (.goto 6, 3) := by decide +kernel
theorem d_G_token_49 : decode b_G_token 49 = .ok (.ldc2_w 121, 3) := by decide +kernel
theorem d_G_token_52 : decode b_G_token 52 = .ok (.lreturn, 1) := by decide +kernel
theorem d_G_tokens_0 : decode b_G_tokens 0 = .ok (.aload_n 0, 1) := by decide +kernel
theorem d_G_tokens_1 : decode b_G_tokens 1 = .ok (.iload_n 1, 1) := by decide +kernel
theorem d_G_tokens_2 : decode b_G_tokens 2 = .ok (.invokevirtual 75, 3) := by decide +kernel
theorem d_G_tokens_5 : decode b_G_tokens 5 = .ok (.ifCond .ne 5, 3) := by decide +kernel
theorem d_G_tokens_8 : decode b_G_tokens 8 = .ok (.iconst (-1), 1) := by decide +kernel
theorem d_G_tokens_9 : decode b_G_tokens 9 = .ok (.ireturn, 1) := by decide +kernel
theorem d_G_tokens_10 : decode b_G_tokens 10 = .ok (.aload_n 0, 1) := by decide +kernel
theorem d_G_tokens_11 : decode b_G_tokens 11 = .ok (.getfield 50, 3) := by decide +kernel
theorem d_G_tokens_14 : decode b_G_tokens 14 = .ok (.ifCond .eq 15, 3) := by decide +kernel
theorem d_G_tokens_17 : decode b_G_tokens 17 = .ok (.aload_n 0, 1) := by decide +kernel
theorem d_G_tokens_18 : decode b_G_tokens 18 = .ok (.getfield 17, 3) := by decide +kernel
theorem d_G_tokens_21 : decode b_G_tokens 21 = .ok (.iload_n 1, 1) := by decide +kernel
theorem d_G_tokens_22 : decode b_G_tokens 22 = .ok (.aaload, 1) := by decide +kernel
theorem d_G_tokens_23 : decode b_G_tokens 23 = .ok (.getfield 123, 3) := by decide +kernel
theorem d_G_tokens_26 : decode b_G_tokens 26 = .ok (.goto 5, 3) := by decide +kernel
theorem d_G_tokens_29 : decode b_G_tokens 29 = .ok (.bipush (-4), 2) := by decide +kernel
theorem d_G_tokens_31 : decode b_G_tokens 31 = .ok (.ireturn, 1) := by decide +kernel
theorem d_G_count_0 : decode b_G_count 0 = .ok (.iload_n 1, 1) := by decide +kernel
theorem d_G_count_1 : decode b_G_count 1 = .ok (.tableswitch 159 0 8 #[51, 56, 61, 66, 79, 95, 111, 127, 143], 51) := by decide +kernel
theorem d_G_count_52 : decode b_G_count 52 = .ok (.aload_n 0, 1) := by decide +kernel
theorem d_G_count_53 : decode b_G_count 53 = .ok (.invokevirtual 78, 3) := by decide +kernel
theorem d_G_count_56 : decode b_G_count 56 = .ok (.ireturn, 1) := by decide +kernel
theorem d_G_count_57 : decode b_G_count 57 = .ok (.aload_n 0, 1) := by decide +kernel
theorem d_G_count_58 : decode b_G_count 58 = .ok (.getfield 57, 3) := by decide +kernel
theorem d_G_count_61 : decode b_G_count 61 = .ok (.ireturn, 1) := by decide +kernel
theorem d_G_count_62 : decode b_G_count 62 = .ok (.aload_n 0, 1) := by decide +kernel
theorem d_G_count_63 : decode b_G_count 63 = .ok (.invokevirtual 129, 3) := by decide +kernel
theorem d_G_count_66 : decode b_G_count 66 = .ok (.ireturn, 1) := by decide +kernel
theorem d_G_count_67 : decode b_G_count 67 = .ok (.aload_n 0, 1) := by decide +kernel
theorem d_G_count_68 : decode b_G_count 68 = .ok (.getfield 50, 3) := by decide +kernel
theorem d_G_count_71 : decode b_G_count 71 = .ok (.ifCond .eq 7, 3) := by decide +kernel
theorem d_G_count_74 : decode b_G_count 74 = .ok (.iconst 1, 1) := by decide +kernel
theorem d_G_count_75 : decode b_G_count 75 = .ok (.goto 4, 3) := by decide +kernel
theorem d_G_count_78 : decode b_G_count 78 = .ok (.iconst 0, 1) := by decide +kernel
theorem d_G_count_79 : decode b_G_count 79 = .ok (.ireturn, 1) := by decide +kernel
theorem d_G_count_80 : decode b_G_count 80 = .ok (.aload_n 0, 1) := by decide +kernel
theorem d_G_count_81 : decode b_G_count 81 = .ok (.getfield 50, 3) := by decide +kernel
theorem d_G_count_84 : decode b_G_count 84 = .ok (.ifCond .eq 10, 3) := by decide +kernel
theorem d_G_count_87 : decode b_G_count 87 = .ok (.aload_n 0, 1) := by decide +kernel
theorem d_G_count_88 : decode b_G_count 88 = .ok (.getfield 88, 3) := by decide +kernel
theorem d_G_count_91 : decode b_G_count 91 = .ok (.goto 4, 3) := by decide +kernel
theorem d_G_count_94 : decode b_G_count 94 = .ok (.iconst 0, 1) := by decide +kernel
theorem d_G_count_95 : decode b_G_count 95 = .ok (.ireturn, 1) := by decide +kernel
theorem d_G_count_96 : decode b_G_count 96 = .ok (.aload_n 0, 1) := by decide +kernel
theorem d_G_count_97 : decode b_G_count 97 = .ok (.getfield 50, 3) := by decide +kernel
theorem d_G_count_100 : decode b_G_count 100 = .ok (.ifCond .eq 10, 3) := by decide +kernel
theorem d_G_count_103 : decode b_G_count 103 = .ok (.aload_n 0, 1) := by decide +kernel
theorem d_G_count_104 : decode b_G_count 104 = .ok (.invokevirtual 132, 3) := by decide +kernel
theorem d_G_count_107 : decode b_G_count 107 = .ok (.goto 4, 3) := by decide +kernel
theorem d_G_count_110 : decode b_G_count 110 = .ok (.iconst 0, 1) := by decide +kernel
theorem d_G_count_111 : decode b_G_count 111 = .ok (.ireturn, 1) := by decide +kernel
theorem d_G_count_112 : decode b_G_count 112 = .ok (.aload_n 0, 1) := by decide +kernel
theorem d_G_count_113 : decode b_G_count 113 = .ok (.getfield 50, 3) := by decide +kernel
theorem d_G_count_116 : decode b_G_count 116 = .ok (.ifCond .eq 10, 3) := by decide +kernel
theorem d_G_count_119 : decode b_G_count 119 = .ok (.aload_n 0, 1) := by decide +kernel
theorem d_G_count_120 : decode b_G_count 120 = .ok (.invokevirtual 135, 3) := by decide +kernel
theorem d_G_count_123 : decode b_G_count 123 = .ok (.goto 4, 3) := by decide +kernel
theorem d_G_count_126 : decode b_G_count 126 = .ok (.iconst 0, 1) := by decide +kernel
theorem d_G_count_127 : decode b_G_count 127 = .ok (.ireturn, 1) := by decide +kernel
theorem d_G_count_128 : decode b_G_count 128 = .ok (.aload_n 0, 1) := by decide +kernel
theorem d_G_count_129 : decode b_G_count 129 = .ok (.getfield 50, 3) := by decide +kernel
theorem d_G_count_132 : decode b_G_count 132 = .ok (.ifCond .eq 10, 3) := by decide +kernel
theorem d_G_count_135 : decode b_G_count 135 = .ok (.aload_n 0, 1) := by decide +kernel
theorem d_G_count_136 : decode b_G_count 136 = .ok (.getfield 102, 3) := by decide +kernel
theorem d_G_count_139 : decode b_G_count 139 = .ok (.goto 4, 3) := by decide +kernel
theorem d_G_count_142 : decode b_G_count 142 = .ok (.iconst 0, 1) := by decide +kernel
theorem d_G_count_143 : decode b_G_count 143 = .ok (.ireturn, 1) := by decide +kernel
theorem d_G_count_144 : decode b_G_count 144 = .ok (.aload_n 0, 1) := by decide +kernel
theorem d_G_count_145 : decode b_G_count 145 = .ok (.getfield 50, 3) := by decide +kernel
theorem d_G_count_148 : decode b_G_count 148 = .ok (.ifCond .eq 10, 3) := by decide +kernel
theorem d_G_count_151 : decode b_G_count 151 = .ok (.aload_n 0, 1) := by decide +kernel
theorem d_G_count_152 : decode b_G_count 152 = .ok (.invokevirtual 138, 3) := by decide +kernel
theorem d_G_count_155 : decode b_G_count 155 = .ok (.goto 4, 3) := by decide +kernel
theorem d_G_count_158 : decode b_G_count 158 = .ok (.iconst 0, 1) := by decide +kernel
theorem d_G_count_159 : decode b_G_count 159 = .ok (.ireturn, 1) := by decide +kernel
theorem d_G_count_160 : decode b_G_count 160 = .ok (.iconst (-1), 1) := by decide +kernel
theorem d_G_count_161 : decode b_G_count 161 = .ok (.ireturn, 1) := by decide +kernel
theorem d_G_isWithin_0 : decode b_G_isWithin 0 = .ok (.iload_n 0, 1) := by decide +kernel
theorem d_G_isWithin_1 : decode b_G_isWithin 1 = .ok (.iload_n 1, 1) := by decide +kernel
theorem d_G_isWithin_2 : decode b_G_isWithin 2 = .ok (.if_icmp .lt 12, 3) := by decide +kernel
theorem d_G_isWithin_5 : decode b_G_isWithin 5 = .ok (.iload_n 0, 1) := by decide +kernel
theorem d_G_isWithin_6 : decode b_G_isWithin 6 = .ok (.iload_n 2, 1) := by decide +kernel
theorem d_G_isWithin_7 : decode b_G_isWithin 7 = .ok (.if_icmp .gt 7, 3) := by decide +kernel
theorem d_G_isWithin_10 : decode b_G_isWithin 10 = .ok (.iconst 1, 1) := by decide +kernel
theorem d_G_isWithin_11 : decode b_G_isWithin 11 = .ok (.goto 4, 3) := by decide +kernel
theorem d_G_isWithin_14 : decode b_G_isWithin 14 = .ok (.iconst 0, 1) := by decide +kernel
theorem d_G_isWithin_15 : decode b_G_isWithin 15 = .ok (.ireturn, 1) := by decide +kernel
theorem d_G_isActor_0 : decode b_G_isActor 0 = .ok (.iload_n 1, 1) := by decide +kernel
theorem d_G_isActor_1 : decode b_G_isActor 1 = .ok (.iconst 0, 1) := by decide +kernel
theorem d_G_isActor_2 : decode b_G_isActor 2 = .ok (.bipush 7, 2) := by decide +kernel
theorem d_G_isActor_4 : decode b_G_isActor 4 = .ok (.invokestatic 35, 3) := by decide +kernel
theorem d_G_isActor_7 : decode b_G_isActor 7 = .ok (.ifCond .eq 19, 3) := by decide +kernel
theorem d_G_isActor_10 : decode b_G_isActor 10 = .ok (.aload_n 0, 1) := by decide +kernel
theorem d_G_isActor_11 : decode b_G_isActor 11 = .ok (.getfield 11, 3) := by decide +kernel
theorem d_G_isActor_14 : decode b_G_isActor 14 = .ok (.iload_n 1, 1) := by decide +kernel
theorem d_G_isActor_15 : decode b_G_isActor 15 = .ok (.aaload, 1) := by decide +kernel
theorem d_G_isActor_16 : decode b_G_isActor 16 = .ok (.getfield 39, 3) := by decide +kernel
theorem d_G_isActor_19 : decode b_G_isActor 19 = .ok (.ifCond .eq 7, 3) := by decide +kernel
theorem d_G_isActor_22 : decode b_G_isActor 22 = .ok (.iconst 1, 1) := by decide +kernel
theorem d_G_isActor_23 : decode b_G_isActor 23 = .ok (.goto 4, 3) := by decide +kernel
theorem d_G_isActor_26 : decode b_G_isActor 26 = .ok (.iconst 0, 1) := by decide +kernel
theorem d_G_isActor_27 : decode b_G_isActor 27 = .ok (.ireturn, 1) := by decide +kernel
theorem d_G_isEdge_0 : decode b_G_isEdge 0 = .ok (.iload_n 1, 1) := by decide +kernel
theorem d_G_isEdge_1 : decode b_G_isEdge 1 = .ok (.iconst 0, 1) := by decide +kernel
theorem d_G_isEdge_2 : decode b_G_isEdge 2 = .ok (.aload_n 0, 1) := by decide +kernel
theorem d_G_isEdge_3 : decode b_G_isEdge 3 = .ok (.getfield 57, 3) := by decide +kernel
theorem d_G_isEdge_6 : decode b_G_isEdge 6 = .ok (.iconst 1, 1) := by decide +kernel
theorem d_G_isEdge_7 : decode b_G_isEdge 7 = .ok (.isub, 1) := by decide +kernel
theorem d_G_isEdge_8 : decode b_G_isEdge 8 = .ok (.invokestatic 35, 3) := by decide +kernel
theorem d_G_isEdge_11 : decode b_G_isEdge 11 = .ok (.ireturn, 1) := by decide +kernel
theorem d_G_greatestDivisor_0 : decode b_G_greatestDivisor 0 = .ok (.iload_n 0, 1) := by decide +kernel
theorem d_G_greatestDivisor_1 : decode b_G_greatestDivisor 1 = .ok (.istore_n 2, 1) := by decide +kernel
theorem d_G_greatestDivisor_2 : decode b_G_greatestDivisor 2 = .ok (.iload_n 1, 1) := by decide +kernel
theorem d_G_greatestDivisor_3 : decode b_G_greatestDivisor 3 = .ok (.istore_n 3, 1) := by decide +kernel
theorem d_G_greatestDivisor_4 : decode b_G_greatestDivisor 4 = .ok (.iconst 0, 1) := by decide +kernel
theorem d_G_greatestDivisor_5 : decode b_G_greatestDivisor 5 = .ok (.istore 4, 2) := by decide +kernel
theorem d_G_greatestDivisor_7 : decode b_G_greatestDivisor 7 = .ok (.iload 4, 2) := by decide +kernel
theorem d_G_greatestDivisor_9 : decode b_G_greatestDivisor 9 = .ok (.bipush 64, 2) := by decide +kernel
theorem d_G_greatestDivisor_11 : decode b_G_greatestDivisor 11 = .ok (.if_icmp .ge 23, 3) := by decide +kernel
theorem d_G_greatestDivisor_14 : decode b_G_greatestDivisor 14 = .ok (.iload_n 3, 1) := by decide +kernel
theorem d_G_greatestDivisor_15 : decode b_G_greatestDivisor 15 = .ok (.ifCond .eq 19, 3) := by decide +kernel
theorem d_G_greatestDivisor_18 : decode b_G_greatestDivisor 18 = .ok (.iload_n 2, 1) := by decide +kernel
theorem d_G_greatestDivisor_19 : decode b_G_greatestDivisor 19 = .ok (.iload_n 3, 1) := by decide +kernel
theorem d_G_greatestDivisor_20 : decode b_G_greatestDivisor 20 = .ok (.irem, 1) := by decide +kernel
theorem d_G_greatestDivisor_21 : decode b_G_greatestDivisor 21 = .ok (.istore 5, 2) := by decide +kernel
theorem d_G_greatestDivisor_23 : decode b_G_greatestDivisor 23 = .ok (.iload_n 3, 1) := by decide +kernel
theorem d_G_greatestDivisor_24 : decode b_G_greatestDivisor 24 = .ok (.istore_n 2, 1) := by decide +kernel
theorem d_G_greatestDivisor_25 : decode b_G_greatestDivisor 25 = .ok (.iload 5, 2) := by decide +kernel
theorem d_G_greatestDivisor_27 : decode b_G_greatestDivisor 27 = .ok (.istore_n 3, 1) := by decide +kernel
theorem d_G_greatestDivisor_28 : decode b_G_greatestDivisor 28 = .ok (.iinc 4 1, 3) := by decide +kernel
theorem d_G_greatestDivisor_31 : decode b_G_greatestDivisor 31 = .ok (.goto (-24), 3) := by decide +kernel
theorem d_G_greatestDivisor_34 : decode b_G_greatestDivisor 34 = .ok (.iload_n 2, 1) := by decide +kernel
theorem d_G_greatestDivisor_35 : decode b_G_greatestDivisor 35 = .ok (.iconst 1, 1) := by decide +kernel
theorem d_G_greatestDivisor_36 : decode b_G_greatestDivisor 36 = .ok (.invokestatic 141, 3) := by decide +kernel
theorem d_G_greatestDivisor_39 : decode b_G_greatestDivisor 39 = .ok (.ireturn, 1) := by decide +kernel
theorem d_G_countActors_0 : decode b_G_countActors 0 = .ok (.iconst 0, 1) := by decide +kernel
theorem d_G_countActors_1 : decode b_G_countActors 1 = .ok (.istore_n 1, 1) := by decide +kernel
theorem d_G_countActors_2 : decode b_G_countActors 2 = .ok (.iconst 0, 1) := by decide +kernel
theorem d_G_countActors_3 : decode b_G_countActors 3 = .ok (.istore_n 2, 1) := by decide +kernel
theorem d_G_countActors_4 : decode b_G_countActors 4 = .ok (.iload_n 2, 1) := by decide +kernel
theorem d_G_countActors_5 : decode b_G_countActors 5 = .ok (.bipush 8, 2) := by decide +kernel
theorem d_G_countActors_7 : decode b_G_countActors 7 = .ok (.if_icmp .ge 24, 3) := by decide +kernel
theorem d_G_countActors_10 : decode b_G_countActors 10 = .ok (.aload_n 0, 1) := by decide +kernel
theorem d_G_countActors_11 : decode b_G_countActors 11 = .ok (.getfield 11, 3) := by decide +kernel
theorem d_G_countActors_14 : decode b_G_countActors 14 = .ok (.iload_n 2, 1) := by decide +kernel
theorem d_G_countActors_15 : decode b_G_countActors 15 = .ok (.aaload, 1) := by decide +kernel
theorem d_G_countActors_16 : decode b_G_countActors 16 = .ok (.getfield 39, 3) := by decide +kernel
theorem d_G_countActors_19 : decode b_G_countActors 19 = .ok (.ifCond .eq 6, 3) := by decide +kernel
theorem d_G_countActors_22 : decode b_G_countActors 22 = .ok (.iinc 1 1, 3) := by decide +kernel
theorem d_G_countActors_25 : decode b_G_countActors 25 = .ok (.iinc 2 1, 3) := by decide +kernel
theorem d_G_countActors_28 : decode b_G_countActors 28 = .ok (.goto (-24), 3) := by decide +kernel
theorem d_G_countActors_31 : decode b_G_countActors 31 = .ok (.iload_n 1, 1) := by decide +kernel
theorem d_G_countActors_32 : decode b_G_countActors 32 = .ok (.ireturn, 1) := by decide +kernel
theorem d_G_countParts_0 : decode b_G_countParts 0 = .ok (.aload_n 0, 1) := by decide +kernel
theorem d_G_countParts_1 : decode b_G_countParts 1 = .ok (.invokevirtual 147, 3) := by decide +kernel
theorem d_G_countParts_4 : decode b_G_countParts 4 = .ok (.aload_n 0, 1) := by decide +kernel
theorem d_G_countParts_5 : decode b_G_countParts 5 = .ok (.invokevirtual 78, 3) := by decide +kernel
theorem d_G_countParts_8 : decode b_G_countParts 8 = .ok (.istore_n 1, 1) := by decide +kernel
theorem d_G_countParts_9 : decode b_G_countParts 9 = .ok (.iconst 0, 1) := by decide +kernel
theorem d_G_countParts_10 : decode b_G_countParts 10 = .ok (.istore_n 2, 1) := by decide +kernel
theorem d_G_countParts_11 : decode b_G_countParts 11 = .ok (.iload_n 2, 1) := by decide +kernel
theorem d_G_countParts_12 : decode b_G_countParts 12 = .ok (.aload_n 0, 1) := by decide +kernel
theorem d_G_countParts_13 : decode b_G_countParts 13 = .ok (.getfield 57, 3) := by decide +kernel
theorem d_G_countParts_16 : decode b_G_countParts 16 = .ok (.if_icmp .ge 62, 3) := by decide +kernel
theorem d_G_countParts_19 : decode b_G_countParts 19 = .ok (.aload_n 0, 1) := by decide +kernel
theorem d_G_countParts_20 : decode b_G_countParts 20 = .ok (.getfield 11, 3) := by decide +kernel
theorem d_G_countParts_23 : decode b_G_countParts 23 = .ok (.aload_n 0, 1) := by decide +kernel
theorem d_G_countParts_24 : decode b_G_countParts 24 = .ok (.getfield 17, 3) := by decide +kernel
theorem d_G_countParts_27 : decode b_G_countParts 27 = .ok (.iload_n 2, 1) := by decide +kernel
theorem d_G_countParts_28 : decode b_G_countParts 28 = .ok (.aaload, 1) := by decide +kernel
theorem d_G_countParts_29 : decode b_G_countParts 29 = .ok (.getfield 60, 3) := by decide +kernel
theorem d_G_countParts_32 : decode b_G_countParts 32 = .ok (.aaload, 1) := by decide +kernel
theorem d_G_countParts_33 : decode b_G_countParts 33 = .ok (.getfield 150, 3) := by decide +kernel
theorem d_G_countParts_36 : decode b_G_countParts 36 = .ok (.istore_n 3, 1) := by decide +kernel
theorem d_G_countParts_37 : decode b_G_countParts 37 = .ok (.aload_n 0, 1) := by decide +kernel
theorem d_G_countParts_38 : decode b_G_countParts 38 = .ok (.getfield 11, 3) := by decide +kernel
theorem d_G_countParts_41 : decode b_G_countParts 41 = .ok (.aload_n 0, 1) := by decide +kernel
theorem d_G_countParts_42 : decode b_G_countParts 42 = .ok (.getfield 17, 3) := by decide +kernel
theorem d_G_countParts_45 : decode b_G_countParts 45 = .ok (.iload_n 2, 1) := by decide +kernel
theorem d_G_countParts_46 : decode b_G_countParts 46 = .ok (.aaload, 1) := by decide +kernel
theorem d_G_countParts_47 : decode b_G_countParts 47 = .ok (.getfield 63, 3) := by decide +kernel
theorem d_G_countParts_50 : decode b_G_countParts 50 = .ok (.aaload, 1) := by decide +kernel
theorem d_G_countParts_51 : decode b_G_countParts 51 = .ok (.getfield 150, 3) := by decide +kernel
theorem d_G_countParts_54 : decode b_G_countParts 54 = .ok (.istore 4, 2) := by decide +kernel
theorem d_G_countParts_56 : decode b_G_countParts 56 = .ok (.iload_n 3, 1) := by decide +kernel
theorem d_G_countParts_57 : decode b_G_countParts 57 = .ok (.iload 4, 2) := by decide +kernel
theorem d_G_countParts_59 : decode b_G_countParts 59 = .ok (.if_icmp .eq 13, 3) := by decide +kernel
theorem d_G_countParts_62 : decode b_G_countParts 62 = .ok (.aload_n 0, 1) := by decide +kernel
theorem d_G_countParts_63 : decode b_G_countParts 63 = .ok (.iload_n 3, 1) := by decide +kernel
theorem d_G_countParts_64 : decode b_G_countParts 64 = .ok (.iload 4, 2) := by decide +kernel
theorem d_G_countParts_66 : decode b_G_countParts 66 = .ok (.invokevirtual 153, 3) := by decide +kernel
theorem d_G_countParts_69 : decode b_G_countParts 69 = .ok (.iinc 1 (-1), 3) := by decide +kernel
theorem d_G_countParts_72 : decode b_G_countParts 72 = .ok (.iinc 2 1, 3) := by decide +kernel
theorem d_G_countParts_75 : decode b_G_countParts 75 = .ok (.goto (-64), 3) := by decide +kernel
theorem d_G_countParts_78 : decode b_G_countParts 78 = .ok (.iload_n 1, 1) := by decide +kernel
theorem d_G_countParts_79 : decode b_G_countParts 79 = .ok (.ireturn, 1) := by decide +kernel
theorem d_G_countRuns_0 : decode b_G_countRuns 0 = .ok (.iconst 0, 1) := by decide +kernel
theorem d_G_countRuns_1 : decode b_G_countRuns 1 = .ok (.istore_n 1, 1) := by decide +kernel
theorem d_G_countRuns_2 : decode b_G_countRuns 2 = .ok (.iconst 0, 1) := by decide +kernel
theorem d_G_countRuns_3 : decode b_G_countRuns 3 = .ok (.istore_n 2, 1) := by decide +kernel
theorem d_G_countRuns_4 : decode b_G_countRuns 4 = .ok (.iload_n 2, 1) := by decide +kernel
theorem d_G_countRuns_5 : decode b_G_countRuns 5 = .ok (.aload_n 0, 1) := by decide +kernel
theorem d_G_countRuns_6 : decode b_G_countRuns 6 = .ok (.getfield 88, 3) := by decide +kernel
theorem d_G_countRuns_9 : decode b_G_countRuns 9 = .ok (.if_icmp .ge 33, 3) := by decide +kernel
theorem d_G_countRuns_12 : decode b_G_countRuns 12 = .ok (.iload_n 2, 1) := by decide +kernel
theorem d_G_countRuns_13 : decode b_G_countRuns 13 = .ok (.ifCond .eq 20, 3) := by decide +kernel
theorem d_G_countRuns_16 : decode b_G_countRuns 16 = .ok (.aload_n 0, 1) := by decide +kernel
theorem d_G_countRuns_17 : decode b_G_countRuns 17 = .ok (.getfield 30, 3) := by decide +kernel
theorem d_G_countRuns_20 : decode b_G_countRuns 20 = .ok (.iload_n 2, 1) := by decide +kernel
theorem d_G_countRuns_21 : decode b_G_countRuns 21 = .ok (.iaload, 1) := by decide +kernel
theorem d_G_countRuns_22 : decode b_G_countRuns 22 = .ok (.aload_n 0, 1) := by decide +kernel
theorem d_G_countRuns_23 : decode b_G_countRuns 23 = .ok (.getfield 30, 3) := by decide +kernel
theorem d_G_countRuns_26 : decode b_G_countRuns 26 = .ok (.iload_n 2, 1) := by decide +kernel
theorem d_G_countRuns_27 : decode b_G_countRuns 27 = .ok (.iconst 1, 1) := by decide +kernel
theorem d_G_countRuns_28 : decode b_G_countRuns 28 = .ok (.isub, 1) := by decide +kernel
theorem d_G_countRuns_29 : decode b_G_countRuns 29 = .ok (.iaload, 1) := by decide +kernel
theorem d_G_countRuns_30 : decode b_G_countRuns 30 = .ok (.if_icmp .eq 6, 3) := by decide +kernel
theorem d_G_countRuns_33 : decode b_G_countRuns 33 = .ok (.iinc 1 1, 3) := by decide +kernel
theorem d_G_countRuns_36 : decode b_G_countRuns 36 = .ok (.iinc 2 1, 3) := by decide +kernel
theorem d_G_countRuns_39 : decode b_G_countRuns 39 = .ok (.goto (-35), 3) := by decide +kernel
theorem d_G_countRuns_42 : decode b_G_countRuns 42 = .ok (.iload_n 1, 1) := by decide +kernel
theorem d_G_countRuns_43 : decode b_G_countRuns 43 = .ok (.ireturn, 1) := by decide +kernel
theorem d_G_sumOfPeaks_0 : decode b_G_sumOfPeaks 0 = .ok (.iconst 0, 1) := by decide +kernel
theorem d_G_sumOfPeaks_1 : decode b_G_sumOfPeaks 1 = .ok (.istore_n 1, 1) := by decide +kernel
theorem d_G_sumOfPeaks_2 : decode b_G_sumOfPeaks 2 = .ok (.iconst 0, 1) := by decide +kernel
theorem d_G_sumOfPeaks_3 : decode b_G_sumOfPeaks 3 = .ok (.istore_n 2, 1) := by decide +kernel
theorem d_G_sumOfPeaks_4 : decode b_G_sumOfPeaks 4 = .ok (.iload_n 2, 1) := by decide +kernel
theorem d_G_sumOfPeaks_5 : decode b_G_sumOfPeaks 5 = .ok (.aload_n 0, 1) := by decide +kernel
theorem d_G_sumOfPeaks_6 : decode b_G_sumOfPeaks 6 = .ok (.getfield 57, 3) := by decide +kernel
theorem d_G_sumOfPeaks_9 : decode b_G_sumOfPeaks 9 = .ok (.if_icmp .ge 21, 3) := by decide +kernel
theorem d_G_sumOfPeaks_12 : decode b_G_sumOfPeaks 12 = .ok (.iload_n 1, 1) := by decide +kernel
theorem d_G_sumOfPeaks_13 : decode b_G_sumOfPeaks 13 = .ok (.aload_n 0, 1) := by decide +kernel
theorem d_G_sumOfPeaks_14 : decode b_G_sumOfPeaks 14 = .ok (.getfield 17, 3) := by decide +kernel
theorem d_G_sumOfPeaks_17 : decode b_G_sumOfPeaks 17 = .ok (.iload_n 2, 1) := by decide +kernel
theorem d_G_sumOfPeaks_18 : decode b_G_sumOfPeaks 18 = .ok (.aaload, 1) := by decide +kernel
theorem d_G_sumOfPeaks_19 : decode b_G_sumOfPeaks 19 = .ok (.getfield 108, 3) := by decide +kernel
theorem d_G_sumOfPeaks_22 : decode b_G_sumOfPeaks 22 = .ok (.iadd, 1) := by decide +kernel
theorem d_G_sumOfPeaks_23 : decode b_G_sumOfPeaks 23 = .ok (.istore_n 1, 1) := by decide +kernel
theorem d_G_sumOfPeaks_24 : decode b_G_sumOfPeaks 24 = .ok (.iinc 2 1, 3) := by decide +kernel
theorem d_G_sumOfPeaks_27 : decode b_G_sumOfPeaks 27 = .ok (.goto (-23), 3) := by decide +kernel
theorem d_G_sumOfPeaks_30 : decode b_G_sumOfPeaks 30 = .ok (.iload_n 1, 1) := by decide +kernel
theorem d_G_sumOfPeaks_31 : decode b_G_sumOfPeaks 31 = .ok (.ireturn, 1) := by decide +kernel
theorem d_G_sumOfTokens_0 : decode b_G_sumOfTokens 0 = .ok (.iconst 0, 1) := by decide +kernel
theorem d_G_sumOfTokens_1 : decode b_G_sumOfTokens 1 = .ok (.istore_n 1, 1) := by decide +kernel
theorem d_G_sumOfTokens_2 : decode b_G_sumOfTokens 2 = .ok (.iconst 0, 1) := by decide +kernel
theorem d_G_sumOfTokens_3 : decode b_G_sumOfTokens 3 = .ok (.istore_n 2, 1) := by decide +kernel
theorem d_G_sumOfTokens_4 : decode b_G_sumOfTokens 4 = .ok (.iload_n 2, 1) := by decide +kernel
theorem d_G_sumOfTokens_5 : decode b_G_sumOfTokens 5 = .ok (.aload_n 0, 1) := by decide +kernel
theorem d_G_sumOfTokens_6 : decode b_G_sumOfTokens 6 = .ok (.getfield 57, 3) := by decide +kernel
theorem d_G_sumOfTokens_9 : decode b_G_sumOfTokens 9 = .ok (.if_icmp .ge 21, 3) := by decide +kernel
theorem d_G_sumOfTokens_12 : decode b_G_sumOfTokens 12 = .ok (.iload_n 1, 1) := by decide +kernel
theorem d_G_sumOfTokens_13 : decode b_G_sumOfTokens 13 = .ok (.aload_n 0, 1) := by decide +kernel
theorem d_G_sumOfTokens_14 : decode b_G_sumOfTokens 14 = .ok (.getfield 17, 3) := by decide +kernel
theorem d_G_sumOfTokens_17 : decode b_G_sumOfTokens 17 = .ok (.iload_n 2, 1) := by decide +kernel
theorem d_G_sumOfTokens_18 : decode b_G_sumOfTokens 18 = .ok (.aaload, 1) := by decide +kernel
theorem d_G_sumOfTokens_19 : decode b_G_sumOfTokens 19 = .ok (.getfield 123, 3) := by decide +kernel
theorem d_G_sumOfTokens_22 : decode b_G_sumOfTokens 22 = .ok (.iadd, 1) := by decide +kernel
theorem d_G_sumOfTokens_23 : decode b_G_sumOfTokens 23 = .ok (.istore_n 1, 1) := by decide +kernel
theorem d_G_sumOfTokens_24 : decode b_G_sumOfTokens 24 = .ok (.iinc 2 1, 3) := by decide +kernel
theorem d_G_sumOfTokens_27 : decode b_G_sumOfTokens 27 = .ok (.goto (-23), 3) := by decide +kernel
theorem d_G_sumOfTokens_30 : decode b_G_sumOfTokens 30 = .ok (.iload_n 1, 1) := by decide +kernel
theorem d_G_sumOfTokens_31 : decode b_G_sumOfTokens 31 = .ok (.ireturn, 1) := by decide +kernel
theorem d_G_makePartsOfOne_0 : decode b_G_makePartsOfOne 0 = .ok (.iconst 0, 1) := by decide +kernel
theorem d_G_makePartsOfOne_1 : decode b_G_makePartsOfOne 1 = .ok (.istore_n 1, 1) := by decide +kernel
theorem d_G_makePartsOfOne_2 : decode b_G_makePartsOfOne 2 = .ok (.iload_n 1, 1) := by decide +kernel
theorem d_G_makePartsOfOne_3 : decode b_G_makePartsOfOne 3 = .ok (.bipush 8, 2) := by decide +kernel
theorem d_G_makePartsOfOne_5 : decode b_G_makePartsOfOne 5 = .ok (.if_icmp .ge 29, 3) := by decide +kernel
theorem d_G_makePartsOfOne_8 : decode b_G_makePartsOfOne 8 = .ok (.aload_n 0, 1) := by decide +kernel
theorem d_G_makePartsOfOne_9 : decode b_G_makePartsOfOne 9 = .ok (.getfield 11, 3) := by decide +kernel
theorem d_G_makePartsOfOne_12 : decode b_G_makePartsOfOne 12 = .ok (.iload_n 1, 1) := by decide +kernel
theorem d_G_makePartsOfOne_13 : decode b_G_makePartsOfOne 13 = .ok (.aaload, 1) := by decide +kernel
theorem d_G_makePartsOfOne_14 : decode b_G_makePartsOfOne 14 = .ok (.iload_n 1, 1) := by decide +kernel
theorem d_G_makePartsOfOne_15 : decode b_G_makePartsOfOne 15 = .ok (.putfield 150, 3) := by decide +kernel
theorem d_G_makePartsOfOne_18 : decode b_G_makePartsOfOne 18 = .ok (.aload_n 0, 1) := by decide +kernel
theorem d_G_makePartsOfOne_19 : decode b_G_makePartsOfOne 19 = .ok (.getfield 11, 3) := by decide +kernel
theorem d_G_makePartsOfOne_22 : decode b_G_makePartsOfOne 22 = .ok (.iload_n 1, 1) := by decide +kernel
theorem d_G_makePartsOfOne_23 : decode b_G_makePartsOfOne 23 = .ok (.aaload, 1) := by decide +kernel
theorem d_G_makePartsOfOne_24 : decode b_G_makePartsOfOne 24 = .ok (.iconst 1, 1) := by decide +kernel
theorem d_G_makePartsOfOne_25 : decode b_G_makePartsOfOne 25 = .ok (.putfield 157, 3) := by decide +kernel
theorem d_G_makePartsOfOne_28 : decode b_G_makePartsOfOne 28 = .ok (.iinc 1 1, 3) := by decide +kernel
theorem d_G_makePartsOfOne_31 : decode b_G_makePartsOfOne 31 = .ok (.goto (-29), 3) := by decide +kernel
theorem d_G_makePartsOfOne_34 : decode b_G_makePartsOfOne 34 = .ok (.return_, 1) := by decide +kernel
theorem d_G_joinParts_0 : decode b_G_joinParts 0 = .ok (.iconst 0, 1) := by decide +kernel
theorem d_G_joinParts_1 : decode b_G_joinParts 1 = .ok (.istore_n 3, 1) := by decide +kernel
theorem d_G_joinParts_2 : decode b_G_joinParts 2 = .ok (.iload_n 3, 1) := by decide +kernel
theorem d_G_joinParts_3 : decode b_G_joinParts 3 = .ok (.bipush 8, 2) := by decide +kernel
theorem d_G_joinParts_5 : decode b_G_joinParts 5 = .ok (.if_icmp .ge 32, 3) := by decide +kernel
theorem d_G_joinParts_8 : decode b_G_joinParts 8 = .ok (.aload_n 0, 1) := by decide +kernel
theorem d_G_joinParts_9 : decode b_G_joinParts 9 = .ok (.getfield 11, 3) := by decide +kernel
theorem d_G_joinParts_12 : decode b_G_joinParts 12 = .ok (.iload_n 3, 1) := by decide +kernel
theorem d_G_joinParts_13 : decode b_G_joinParts 13 = .ok (.aaload, 1) := by decide +kernel
theorem d_G_joinParts_14 : decode b_G_joinParts 14 = .ok (.getfield 150, 3) := by decide +kernel
theorem d_G_joinParts_17 : decode b_G_joinParts 17 = .ok (.iload_n 2, 1) := by decide +kernel
theorem d_G_joinParts_18 : decode b_G_joinParts 18 = .ok (.if_icmp .ne 13, 3) := by decide +kernel
theorem d_G_joinParts_21 : decode b_G_joinParts 21 = .ok (.aload_n 0, 1) := by decide +kernel
theorem d_G_joinParts_22 : decode b_G_joinParts 22 = .ok (.getfield 11, 3) := by decide +kernel
theorem d_G_joinParts_25 : decode b_G_joinParts 25 = .ok (.iload_n 3, 1) := by decide +kernel
theorem d_G_joinParts_26 : decode b_G_joinParts 26 = .ok (.aaload, 1) := by decide +kernel
theorem d_G_joinParts_27 : decode b_G_joinParts 27 = .ok (.iload_n 1, 1) := by decide +kernel
theorem d_G_joinParts_28 : decode b_G_joinParts 28 = .ok (.putfield 150, 3) := by decide +kernel
theorem d_G_joinParts_31 : decode b_G_joinParts 31 = .ok (.iinc 3 1, 3) := by decide +kernel
theorem d_G_joinParts_34 : decode b_G_joinParts 34 = .ok (.goto (-32), 3) := by decide +kernel
theorem d_G_joinParts_37 : decode b_G_joinParts 37 = .ok (.return_, 1) := by decide +kernel
theorem d_G_scalePart_0 : decode b_G_scalePart 0 = .ok (.iconst 0, 1) := by decide +kernel
theorem d_G_scalePart_1 : decode b_G_scalePart 1 = .ok (.istore_n 3, 1) := by decide +kernel
theorem d_G_scalePart_2 : decode b_G_scalePart 2 = .ok (.iload_n 3, 1) := by decide +kernel
theorem d_G_scalePart_3 : decode b_G_scalePart 3 = .ok (.bipush 8, 2) := by decide +kernel
theorem d_G_scalePart_5 : decode b_G_scalePart 5 = .ok (.if_icmp .ge 37, 3) := by decide +kernel
theorem d_G_scalePart_8 : decode b_G_scalePart 8 = .ok (.aload_n 0, 1) := by decide +kernel
theorem d_G_scalePart_9 : decode b_G_scalePart 9 = .ok (.getfield 11, 3) := by decide +kernel
theorem d_G_scalePart_12 : decode b_G_scalePart 12 = .ok (.iload_n 3, 1) := by decide +kernel
theorem d_G_scalePart_13 : decode b_G_scalePart 13 = .ok (.aaload, 1) := by decide +kernel
theorem d_G_scalePart_14 : decode b_G_scalePart 14 = .ok (.getfield 150, 3) := by decide +kernel
theorem d_G_scalePart_17 : decode b_G_scalePart 17 = .ok (.iload_n 1, 1) := by decide +kernel
theorem d_G_scalePart_18 : decode b_G_scalePart 18 = .ok (.if_icmp .ne 18, 3) := by decide +kernel
theorem d_G_scalePart_21 : decode b_G_scalePart 21 = .ok (.aload_n 0, 1) := by decide +kernel
theorem d_G_scalePart_22 : decode b_G_scalePart 22 = .ok (.getfield 11, 3) := by decide +kernel
theorem d_G_scalePart_25 : decode b_G_scalePart 25 = .ok (.iload_n 3, 1) := by decide +kernel
theorem d_G_scalePart_26 : decode b_G_scalePart 26 = .ok (.aaload, 1) := by decide +kernel
theorem d_G_scalePart_27 : decode b_G_scalePart 27 = .ok (.dup, 1) := by decide +kernel
theorem d_G_scalePart_28 : decode b_G_scalePart 28 = .ok (.getfield 157, 3) := by decide +kernel
theorem d_G_scalePart_31 : decode b_G_scalePart 31 = .ok (.iload_n 2, 1) := by decide +kernel
theorem d_G_scalePart_32 : decode b_G_scalePart 32 = .ok (.imul, 1) := by decide +kernel
theorem d_G_scalePart_33 : decode b_G_scalePart 33 = .ok (.putfield 157, 3) := by decide +kernel
theorem d_G_scalePart_36 : decode b_G_scalePart 36 = .ok (.iinc 3 1, 3) := by decide +kernel
theorem d_G_scalePart_39 : decode b_G_scalePart 39 = .ok (.goto (-37), 3) := by decide +kernel
theorem d_G_scalePart_42 : decode b_G_scalePart 42 = .ok (.return_, 1) := by decide +kernel
theorem d_G_findCulprit_0 : decode b_G_findCulprit 0 = .ok (.aload_n 0, 1) := by decide +kernel
theorem d_G_findCulprit_1 : decode b_G_findCulprit 1 = .ok (.invokevirtual 147, 3) := by decide +kernel
theorem d_G_findCulprit_4 : decode b_G_findCulprit 4 = .ok (.iconst 0, 1) := by decide +kernel
theorem d_G_findCulprit_5 : decode b_G_findCulprit 5 = .ok (.istore_n 1, 1) := by decide +kernel
theorem d_G_findCulprit_6 : decode b_G_findCulprit 6 = .ok (.iload_n 1, 1) := by decide +kernel
theorem d_G_findCulprit_7 : decode b_G_findCulprit 7 = .ok (.aload_n 0, 1) := by decide +kernel
theorem d_G_findCulprit_8 : decode b_G_findCulprit 8 = .ok (.getfield 57, 3) := by decide +kernel
theorem d_G_findCulprit_11 : decode b_G_findCulprit 11 = .ok (.if_icmp .ge 24, 3) := by decide +kernel
theorem d_G_findCulprit_14 : decode b_G_findCulprit 14 = .ok (.aload_n 0, 1) := by decide +kernel
theorem d_G_findCulprit_15 : decode b_G_findCulprit 15 = .ok (.aload_n 0, 1) := by decide +kernel
theorem d_G_findCulprit_16 : decode b_G_findCulprit 16 = .ok (.getfield 17, 3) := by decide +kernel
theorem d_G_findCulprit_19 : decode b_G_findCulprit 19 = .ok (.iload_n 1, 1) := by decide +kernel
theorem d_G_findCulprit_20 : decode b_G_findCulprit 20 = .ok (.aaload, 1) := by decide +kernel
theorem d_G_findCulprit_21 : decode b_G_findCulprit 21 = .ok (.invokevirtual 160, 3) := by decide +kernel
theorem d_G_findCulprit_24 : decode b_G_findCulprit 24 = .ok (.ifCond .ne 5, 3) := by decide +kernel
theorem d_G_findCulprit_27 : decode b_G_findCulprit 27 = .ok (.iload_n 1, 1) := by decide +kernel
theorem d_G_findCulprit_28 : decode b_G_findCulprit 28 = .ok (.ireturn, 1) := by decide +kernel
theorem d_G_findCulprit_29 : decode b_G_findCulprit 29 = .ok (.iinc 1 1, 3) := by decide +kernel
theorem d_G_findCulprit_32 : decode b_G_findCulprit 32 = .ok (.goto (-26), 3) := by decide +kernel
theorem d_G_findCulprit_35 : decode b_G_findCulprit 35 = .ok (.iconst (-1), 1) := by decide +kernel
theorem d_G_findCulprit_36 : decode b_G_findCulprit 36 = .ok (.ireturn, 1) := by decide +kernel
theorem d_G_balance_0 : decode b_G_balance 0 = .ok (.aload_n 0, 1) := by decide +kernel
theorem d_G_balance_1 : decode b_G_balance 1 = .ok (.getfield 11, 3) := by decide +kernel
theorem d_G_balance_4 : decode b_G_balance 4 = .ok (.aload_n 1, 1) := by decide +kernel
theorem d_G_balance_5 : decode b_G_balance 5 = .ok (.getfield 60, 3) := by decide +kernel
theorem d_G_balance_8 : decode b_G_balance 8 = .ok (.aaload, 1) := by decide +kernel
theorem d_G_balance_9 : decode b_G_balance 9 = .ok (.astore_n 2, 1) := by decide +kernel
theorem d_G_balance_10 : decode b_G_balance 10 = .ok (.aload_n 0, 1) := by decide +kernel
theorem d_G_balance_11 : decode b_G_balance 11 = .ok (.getfield 11, 3) := by decide +kernel
theorem d_G_balance_14 : decode b_G_balance 14 = .ok (.aload_n 1, 1) := by decide +kernel
theorem d_G_balance_15 : decode b_G_balance 15 = .ok (.getfield 63, 3) := by decide +kernel
theorem d_G_balance_18 : decode b_G_balance 18 = .ok (.aaload, 1) := by decide +kernel
theorem d_G_balance_19 : decode b_G_balance 19 = .ok (.astore_n 3, 1) := by decide +kernel
theorem d_G_balance_20 : decode b_G_balance 20 = .ok (.aload_n 1, 1) := by decide +kernel
theorem d_G_balance_21 : decode b_G_balance 21 = .ok (.getfield 66, 3) := by decide +kernel
theorem d_G_balance_24 : decode b_G_balance 24 = .ok (.aload_n 2, 1) := by decide +kernel
theorem d_G_balance_25 : decode b_G_balance 25 = .ok (.getfield 157, 3) := by decide +kernel
theorem d_G_balance_28 : decode b_G_balance 28 = .ok (.imul, 1) := by decide +kernel
theorem d_G_balance_29 : decode b_G_balance 29 = .ok (.istore 4, 2) := by decide +kernel
theorem d_G_balance_31 : decode b_G_balance 31 = .ok (.aload_n 1, 1) := by decide +kernel
theorem d_G_balance_32 : decode b_G_balance 32 = .ok (.getfield 69, 3) := by decide +kernel
theorem d_G_balance_35 : decode b_G_balance 35 = .ok (.aload_n 3, 1) := by decide +kernel
theorem d_G_balance_36 : decode b_G_balance 36 = .ok (.getfield 157, 3) := by decide +kernel
theorem d_G_balance_39 : decode b_G_balance 39 = .ok (.imul, 1) := by decide +kernel
theorem d_G_balance_40 : decode b_G_balance 40 = .ok (.istore 5, 2) := by decide +kernel
theorem d_G_balance_42 : decode b_G_balance 42 = .ok (.aload_n 2, 1) := by decide +kernel
theorem d_G_balance_43 : decode b_G_balance 43 = .ok (.getfield 150, 3) := by decide +kernel
theorem d_G_balance_46 : decode b_G_balance 46 = .ok (.aload_n 3, 1) := by decide +kernel
theorem d_G_balance_47 : decode b_G_balance 47 = .ok (.getfield 150, 3) := by decide +kernel
theorem d_G_balance_50 : decode b_G_balance 50 = .ok (.if_icmp .ne 16, 3) := by decide +kernel
theorem d_G_balance_53 : decode b_G_balance 53 = .ok (.iload 4, 2) := by decide +kernel
theorem d_G_balance_55 : decode b_G_balance 55 = .ok (.iload 5, 2) := by decide +kernel
theorem d_G_balance_57 : decode b_G_balance 57 = .ok (.if_icmp .ne 7, 3) := by decide +kernel
theorem d_G_balance_60 : decode b_G_balance 60 = .ok (.iconst 1, 1) := by decide +kernel
theorem d_G_balance_61 : decode b_G_balance 61 = .ok (.goto 4, 3) := by decide +kernel
theorem d_G_balance_64 : decode b_G_balance 64 = .ok (.iconst 0, 1) := by decide +kernel
theorem d_G_balance_65 : decode b_G_balance 65 = .ok (.ireturn, 1) := by decide +kernel
theorem d_G_balance_66 : decode b_G_balance 66 = .ok (.iload 4, 2) := by decide +kernel
theorem d_G_balance_68 : decode b_G_balance 68 = .ok (.iload 5, 2) := by decide +kernel
theorem d_G_balance_70 : decode b_G_balance 70 = .ok (.invokestatic 164, 3) := by decide +kernel
theorem d_G_balance_73 : decode b_G_balance 73 = .ok (.istore 6, 2) := by decide +kernel
theorem d_G_balance_75 : decode b_G_balance 75 = .ok (.aload_n 0, 1) := by decide +kernel
theorem d_G_balance_76 : decode b_G_balance 76 = .ok (.aload_n 2, 1) := by decide +kernel
theorem d_G_balance_77 : decode b_G_balance 77 = .ok (.getfield 150, 3) := by decide +kernel
theorem d_G_balance_80 : decode b_G_balance 80 = .ok (.iload 5, 2) := by decide +kernel
theorem d_G_balance_82 : decode b_G_balance 82 = .ok (.iload 6, 2) := by decide +kernel
theorem d_G_balance_84 : decode b_G_balance 84 = .ok (.idiv, 1) := by decide +kernel
theorem d_G_balance_85 : decode b_G_balance 85 = .ok (.invokevirtual 167, 3) := by decide +kernel
theorem d_G_balance_88 : decode b_G_balance 88 = .ok (.aload_n 0, 1) := by decide +kernel
theorem d_G_balance_89 : decode b_G_balance 89 = .ok (.aload_n 3, 1) := by decide +kernel
theorem d_G_balance_90 : decode b_G_balance 90 = .ok (.getfield 150, 3) := by decide +kernel
theorem d_G_balance_93 : decode b_G_balance 93 = .ok (.iload 4, 2) := by decide +kernel
theorem d_G_balance_95 : decode b_G_balance 95 = .ok (.iload 6, 2) := by decide +kernel
theorem d_G_balance_97 : decode b_G_balance 97 = .ok (.idiv, 1) := by decide +kernel
theorem d_G_balance_98 : decode b_G_balance 98 = .ok (.invokevirtual 167, 3) := by decide +kernel
theorem d_G_balance_101 : decode b_G_balance 101 = .ok (.aload_n 0, 1) := by decide +kernel
theorem d_G_balance_102 : decode b_G_balance 102 = .ok (.aload_n 2, 1) := by decide +kernel
theorem d_G_balance_103 : decode b_G_balance 103 = .ok (.getfield 150, 3) := by decide +kernel
theorem d_G_balance_106 : decode b_G_balance 106 = .ok (.aload_n 3, 1) := by decide +kernel
theorem d_G_balance_107 : decode b_G_balance 107 = .ok (.getfield 150, 3) := by decide +kernel
theorem d_G_balance_110 : decode b_G_balance 110 = .ok (.invokevirtual 153, 3) := by decide +kernel
theorem d_G_balance_113 : decode b_G_balance 113 = .ok (.iconst 1, 1) := by decide +kernel
theorem d_G_balance_114 : decode b_G_balance 114 = .ok (.ireturn, 1) := by decide +kernel
theorem d_G_keepRepetitions_0 : decode b_G_keepRepetitions 0 = .ok (.iconst 0, 1) := by decide +kernel
theorem d_G_keepRepetitions_1 : decode b_G_keepRepetitions 1 = .ok (.istore_n 1, 1) := by decide +kernel
theorem d_G_keepRepetitions_2 : decode b_G_keepRepetitions 2 = .ok (.iconst 0, 1) := by decide +kernel
theorem d_G_keepRepetitions_3 : decode b_G_keepRepetitions 3 = .ok (.istore_n 2, 1) := by decide +kernel
theorem d_G_keepRepetitions_4 : decode b_G_keepRepetitions 4 = .ok (.iload_n 2, 1) := by decide +kernel
theorem d_G_keepRepetitions_5 : decode b_G_keepRepetitions 5 = .ok (.bipush 8, 2) := by decide +kernel
theorem d_G_keepRepetitions_7 : decode b_G_keepRepetitions 7 = .ok (.if_icmp .ge 42, 3) := by decide +kernel
theorem d_G_keepRepetitions_10 : decode b_G_keepRepetitions 10 = .ok (.aload_n 0, 1) := by decide +kernel
theorem d_G_keepRepetitions_11 : decode b_G_keepRepetitions 11 = .ok (.getfield 11, 3) := by decide +kernel
theorem d_G_keepRepetitions_14 : decode b_G_keepRepetitions 14 = .ok (.iload_n 2, 1) := by decide +kernel
theorem d_G_keepRepetitions_15 : decode b_G_keepRepetitions 15 = .ok (.aaload, 1) := by decide +kernel
theorem d_G_keepRepetitions_16 : decode b_G_keepRepetitions 16 = .ok (.astore_n 3, 1) := by decide +kernel
theorem d_G_keepRepetitions_17 : decode b_G_keepRepetitions 17 = .ok (.aload_n 3, 1) := by decide +kernel
theorem d_G_keepRepetitions_18 : decode b_G_keepRepetitions 18 = .ok (.aload_n 3, 1) := by decide +kernel
theorem d_G_keepRepetitions_19 : decode b_G_keepRepetitions 19 = .ok (.getfield 39, 3) := by decide +kernel
theorem d_G_keepRepetitions_22 : decode b_G_keepRepetitions 22 = .ok (.ifCond .eq 10, 3) := by decide +kernel
theorem d_G_keepRepetitions_25 : decode b_G_keepRepetitions 25 = .ok (.aload_n 3, 1) := by decide +kernel
theorem d_G_keepRepetitions_26 : decode b_G_keepRepetitions 26 = .ok (.getfield 157, 3) := by decide +kernel
theorem d_G_keepRepetitions_29 : decode b_G_keepRepetitions 29 = .ok (.goto 4, 3) := by decide +kernel
theorem d_G_keepRepetitions_32 : decode b_G_keepRepetitions 32 = .ok (.iconst 0, 1) := by decide +kernel
theorem d_G_keepRepetitions_33 : decode b_G_keepRepetitions 33 = .ok (.putfield 105, 3) := by decide +kernel
theorem d_G_keepRepetitions_36 : decode b_G_keepRepetitions 36 = .ok (.iload_n 1, 1) := by decide +kernel
theorem d_G_keepRepetitions_37 : decode b_G_keepRepetitions 37 = .ok (.aload_n 3, 1) := by decide +kernel
theorem d_G_keepRepetitions_38 : decode b_G_keepRepetitions 38 = .ok (.getfield 105, 3) := by decide +kernel
theorem d_G_keepRepetitions_41 : decode b_G_keepRepetitions 41 = .ok (.iadd, 1) := by decide +kernel
theorem d_G_keepRepetitions_42 : decode b_G_keepRepetitions 42 = .ok (.istore_n 1, 1) := by decide +kernel
theorem d_G_keepRepetitions_43 : decode b_G_keepRepetitions 43 = .ok (.iinc 2 1, 3) := by decide +kernel
theorem d_G_keepRepetitions_46 : decode b_G_keepRepetitions 46 = .ok (.goto (-42), 3) := by decide +kernel
theorem d_G_keepRepetitions_49 : decode b_G_keepRepetitions 49 = .ok (.iload_n 1, 1) := by decide +kernel
theorem d_G_keepRepetitions_50 : decode b_G_keepRepetitions 50 = .ok (.ireturn, 1) := by decide +kernel
theorem d_G_makeSchedule_0 : decode b_G_makeSchedule 0 = .ok (.iconst 0, 1) := by decide +kernel
theorem d_G_makeSchedule_1 : decode b_G_makeSchedule 1 = .ok (.istore_n 2, 1) := by decide +kernel
theorem d_G_makeSchedule_2 : decode b_G_makeSchedule 2 = .ok (.iload_n 2, 1) := by decide +kernel
theorem d_G_makeSchedule_3 : decode b_G_makeSchedule 3 = .ok (.bipush 8, 2) := by decide +kernel
theorem d_G_makeSchedule_5 : decode b_G_makeSchedule 5 = .ok (.if_icmp .ge 19, 3) := by decide +kernel
theorem d_G_makeSchedule_8 : decode b_G_makeSchedule 8 = .ok (.aload_n 0, 1) := by decide +kernel
theorem d_G_makeSchedule_9 : decode b_G_makeSchedule 9 = .ok (.getfield 11, 3) := by decide +kernel
theorem d_G_makeSchedule_12 : decode b_G_makeSchedule 12 = .ok (.iload_n 2, 1) := by decide +kernel
theorem d_G_makeSchedule_13 : decode b_G_makeSchedule 13 = .ok (.aaload, 1) := by decide +kernel
theorem d_G_makeSchedule_14 : decode b_G_makeSchedule 14 = .ok (.iconst 0, 1) := by decide +kernel
theorem d_G_makeSchedule_15 : decode b_G_makeSchedule 15 = .ok (.putfield 170, 3) := by decide +kernel
theorem d_G_makeSchedule_18 : decode b_G_makeSchedule 18 = .ok (.iinc 2 1, 3) := by decide +kernel
theorem d_G_makeSchedule_21 : decode b_G_makeSchedule 21 = .ok (.goto (-19), 3) := by decide +kernel
theorem d_G_makeSchedule_24 : decode b_G_makeSchedule 24 = .ok (.iconst 0, 1) := by decide +kernel
theorem d_G_makeSchedule_25 : decode b_G_makeSchedule 25 = .ok (.istore_n 2, 1) := by decide +kernel
theorem d_G_makeSchedule_26 : decode b_G_makeSchedule 26 = .ok (.iload_n 2, 1) := by decide +kernel
theorem d_G_makeSchedule_27 : decode b_G_makeSchedule 27 = .ok (.aload_n 0, 1) := by decide +kernel
theorem d_G_makeSchedule_28 : decode b_G_makeSchedule 28 = .ok (.getfield 57, 3) := by decide +kernel
theorem d_G_makeSchedule_31 : decode b_G_makeSchedule 31 = .ok (.if_icmp .ge 45, 3) := by decide +kernel
theorem d_G_makeSchedule_34 : decode b_G_makeSchedule 34 = .ok (.aload_n 0, 1) := by decide +kernel
theorem d_G_makeSchedule_35 : decode b_G_makeSchedule 35 = .ok (.getfield 17, 3) := by decide +kernel
theorem d_G_makeSchedule_38 : decode b_G_makeSchedule 38 = .ok (.iload_n 2, 1) := by decide +kernel
theorem d_G_makeSchedule_39 : decode b_G_makeSchedule 39 = .ok (.aaload, 1) := by decide +kernel
theorem d_G_makeSchedule_40 : decode b_G_makeSchedule 40 = .ok (.aload_n 0, 1) := by decide +kernel
theorem d_G_makeSchedule_41 : decode b_G_makeSchedule 41 = .ok (.getfield 17, 3) := by decide +kernel
theorem d_G_makeSchedule_44 : decode b_G_makeSchedule 44 = .ok (.iload_n 2, 1) := by decide +kernel
theorem d_G_makeSchedule_45 : decode b_G_makeSchedule 45 = .ok (.aaload, 1) := by decide +kernel
theorem d_G_makeSchedule_46 : decode b_G_makeSchedule 46 = .ok (.getfield 72, 3) := by decide +kernel
theorem d_G_makeSchedule_49 : decode b_G_makeSchedule 49 = .ok (.putfield 123, 3) := by decide +kernel
theorem d_G_makeSchedule_52 : decode b_G_makeSchedule 52 = .ok (.aload_n 0, 1) := by decide +kernel
theorem d_G_makeSchedule_53 : decode b_G_makeSchedule 53 = .ok (.getfield 17, 3) := by decide +kernel
theorem d_G_makeSchedule_56 : decode b_G_makeSchedule 56 = .ok (.iload_n 2, 1) := by decide +kernel
theorem d_G_makeSchedule_57 : decode b_G_makeSchedule 57 = .ok (.aaload, 1) := by decide +kernel
theorem d_G_makeSchedule_58 : decode b_G_makeSchedule 58 = .ok (.aload_n 0, 1) := by decide +kernel
theorem d_G_makeSchedule_59 : decode b_G_makeSchedule 59 = .ok (.getfield 17, 3) := by decide +kernel
theorem d_G_makeSchedule_62 : decode b_G_makeSchedule 62 = .ok (.iload_n 2, 1) := by decide +kernel
theorem d_G_makeSchedule_63 : decode b_G_makeSchedule 63 = .ok (.aaload, 1) := by decide +kernel
theorem d_G_makeSchedule_64 : decode b_G_makeSchedule 64 = .ok (.getfield 72, 3) := by decide +kernel
theorem d_G_makeSchedule_67 : decode b_G_makeSchedule 67 = .ok (.putfield 108, 3) := by decide +kernel
theorem d_G_makeSchedule_70 : decode b_G_makeSchedule 70 = .ok (.iinc 2 1, 3) := by decide +kernel
theorem d_G_makeSchedule_73 : decode b_G_makeSchedule 73 = .ok (.goto (-47), 3) := by decide +kernel
theorem d_G_makeSchedule_76 : decode b_G_makeSchedule 76 = .ok (.iconst 0, 1) := by decide +kernel
theorem d_G_makeSchedule_77 : decode b_G_makeSchedule 77 = .ok (.istore_n 2, 1) := by decide +kernel
theorem d_G_makeSchedule_78 : decode b_G_makeSchedule 78 = .ok (.iconst 0, 1) := by decide +kernel
theorem d_G_makeSchedule_79 : decode b_G_makeSchedule 79 = .ok (.istore_n 3, 1) := by decide +kernel
theorem d_G_makeSchedule_80 : decode b_G_makeSchedule 80 = .ok (.iload_n 3, 1) := by decide +kernel
theorem d_G_makeSchedule_81 : decode b_G_makeSchedule 81 = .ok (.aload_n 0, 1) := by decide +kernel
theorem d_G_makeSchedule_82 : decode b_G_makeSchedule 82 = .ok (.getfield 88, 3) := by decide +kernel
theorem d_G_makeSchedule_85 : decode b_G_makeSchedule 85 = .ok (.if_icmp .ge 45, 3) := by decide +kernel
theorem d_G_makeSchedule_88 : decode b_G_makeSchedule 88 = .ok (.aload_n 0, 1) := by decide +kernel
theorem d_G_makeSchedule_89 : decode b_G_makeSchedule 89 = .ok (.iload_n 1, 1) := by decide +kernel
theorem d_G_makeSchedule_90 : decode b_G_makeSchedule 90 = .ok (.iload_n 2, 1) := by decide +kernel
theorem d_G_makeSchedule_91 : decode b_G_makeSchedule 91 = .ok (.invokevirtual 173, 3) := by decide +kernel
theorem d_G_makeSchedule_94 : decode b_G_makeSchedule 94 = .ok (.istore 4, 2) := by decide +kernel
theorem d_G_makeSchedule_96 : decode b_G_makeSchedule 96 = .ok (.iload 4, 2) := by decide +kernel
theorem d_G_makeSchedule_98 : decode b_G_makeSchedule 98 = .ok (.iconst (-1), 1) := by decide +kernel
theorem d_G_makeSchedule_99 : decode b_G_makeSchedule 99 = .ok (.if_icmp .ne 8, 3) := by decide +kernel
theorem d_G_makeSchedule_102 : decode b_G_makeSchedule 102 = .ok (.aload_n 0, 1) := by decide +kernel
theorem d_G_makeSchedule_103 : decode b_G_makeSchedule 103 = .ok (.invokevirtual 176, 3) := by decide +kernel
theorem d_G_makeSchedule_106 : decode b_G_makeSchedule 106 = .ok (.ireturn, 1) := by decide +kernel
theorem d_G_makeSchedule_107 : decode b_G_makeSchedule 107 = .ok (.aload_n 0, 1) := by decide +kernel
theorem d_G_makeSchedule_108 : decode b_G_makeSchedule 108 = .ok (.iload 4, 2) := by decide +kernel
theorem d_G_makeSchedule_110 : decode b_G_makeSchedule 110 = .ok (.invokevirtual 179, 3) := by decide +kernel
theorem d_G_makeSchedule_113 : decode b_G_makeSchedule 113 = .ok (.aload_n 0, 1) := by decide +kernel
theorem d_G_makeSchedule_114 : decode b_G_makeSchedule 114 = .ok (.getfield 30, 3) := by decide +kernel
theorem d_G_makeSchedule_117 : decode b_G_makeSchedule 117 = .ok (.iload_n 3, 1) := by decide +kernel
theorem d_G_makeSchedule_118 : decode b_G_makeSchedule 118 = .ok (.iload 4, 2) := by decide +kernel
theorem d_G_makeSchedule_120 : decode b_G_makeSchedule 120 = .ok (.iastore, 1) := by decide +kernel
theorem d_G_makeSchedule_121 : decode b_G_makeSchedule 121 = .ok (.iload 4, 2) := by decide +kernel
theorem d_G_makeSchedule_123 : decode b_G_makeSchedule 123 = .ok (.istore_n 2, 1) := by decide +kernel
theorem d_G_makeSchedule_124 : decode b_G_makeSchedule 124 = .ok (.iinc 3 1, 3) := by decide +kernel
theorem d_G_makeSchedule_127 : decode b_G_makeSchedule 127 = .ok (.goto (-47), 3) := by decide +kernel
theorem d_G_makeSchedule_130 : decode b_G_makeSchedule 130 = .ok (.iconst (-1), 1) := by decide +kernel
theorem d_G_makeSchedule_131 : decode b_G_makeSchedule 131 = .ok (.ireturn, 1) := by decide +kernel
theorem d_G_choose_0 : decode b_G_choose 0 = .ok (.iload_n 1, 1) := by decide +kernel
theorem d_G_choose_1 : decode b_G_choose 1 = .ok (.iconst 1, 1) := by decide +kernel
theorem d_G_choose_2 : decode b_G_choose 2 = .ok (.if_icmp .ne 8, 3) := by decide +kernel
theorem d_G_choose_5 : decode b_G_choose 5 = .ok (.aload_n 0, 1) := by decide +kernel
theorem d_G_choose_6 : decode b_G_choose 6 = .ok (.invokevirtual 182, 3) := by decide +kernel
theorem d_G_choose_9 : decode b_G_choose 9 = .ok (.ireturn, 1) := by decide +kernel
theorem d_G_choose_10 : decode b_G_choose 10 = .ok (.aload_n 0, 1) := by decide +kernel
theorem d_G_choose_11 : decode b_G_choose 11 = .ok (.iload_n 1, 1) := by decide +kernel
theorem d_G_choose_12 : decode b_G_choose 12 = .ok (.iconst 2, 1) := by decide +kernel
theorem d_G_choose_13 : decode b_G_choose 13 = .ok (.if_icmp .ne 7, 3) := by decide +kernel
theorem d_G_choose_16 : decode b_G_choose 16 = .ok (.iload_n 2, 1) := by decide +kernel
theorem d_G_choose_17 : decode b_G_choose 17 = .ok (.goto 4, 3) := by decide +kernel
theorem d_G_choose_20 : decode b_G_choose 20 = .ok (.iconst 0, 1) := by decide +kernel
theorem d_G_choose_21 : decode b_G_choose 21 = .ok (.invokevirtual 185, 3) := by decide +kernel
theorem d_G_choose_24 : decode b_G_choose 24 = .ok (.ireturn, 1) := by decide +kernel
theorem d_G_chooseFrom_0 : decode b_G_chooseFrom 0 = .ok (.iconst 0, 1) := by decide +kernel
theorem d_G_chooseFrom_1 : decode b_G_chooseFrom 1 = .ok (.istore_n 2, 1) := by decide +kernel
theorem d_G_chooseFrom_2 : decode b_G_chooseFrom 2 = .ok (.iload_n 2, 1) := by decide +kernel
theorem d_G_chooseFrom_3 : decode b_G_chooseFrom 3 = .ok (.bipush 8, 2) := by decide +kernel
theorem d_G_chooseFrom_5 : decode b_G_chooseFrom 5 = .ok (.if_icmp .ge 26, 3) := by decide +kernel
theorem d_G_chooseFrom_8 : decode b_G_chooseFrom 8 = .ok (.iload_n 1, 1) := by decide +kernel
theorem d_G_chooseFrom_9 : decode b_G_chooseFrom 9 = .ok (.iload_n 2, 1) := by decide +kernel
theorem d_G_chooseFrom_10 : decode b_G_chooseFrom 10 = .ok (.iadd, 1) := by decide +kernel
theorem d_G_chooseFrom_11 : decode b_G_chooseFrom 11 = .ok (.bipush 8, 2) := by decide +kernel
theorem d_G_chooseFrom_13 : decode b_G_chooseFrom 13 = .ok (.irem, 1) := by decide +kernel
theorem d_G_chooseFrom_14 : decode b_G_chooseFrom 14 = .ok (.istore_n 3, 1) := by decide +kernel
theorem d_G_chooseFrom_15 : decode b_G_chooseFrom 15 = .ok (.aload_n 0, 1) := by decide +kernel
theorem d_G_chooseFrom_16 : decode b_G_chooseFrom 16 = .ok (.iload_n 3, 1) := by decide +kernel
theorem d_G_chooseFrom_17 : decode b_G_chooseFrom 17 = .ok (.invokevirtual 188, 3) := by decide +kernel
theorem d_G_chooseFrom_20 : decode b_G_chooseFrom 20 = .ok (.ifCond .eq 5, 3) := by decide +kernel
theorem d_G_chooseFrom_23 : decode b_G_chooseFrom 23 = .ok (.iload_n 3, 1) := by decide +kernel
theorem d_G_chooseFrom_24 : decode b_G_chooseFrom 24 = .ok (.ireturn, 1) := by decide +kernel
theorem d_G_chooseFrom_25 : decode b_G_chooseFrom 25 = .ok (.iinc 2 1, 3) := by decide +kernel
theorem d_G_chooseFrom_28 : decode b_G_chooseFrom 28 = .ok (.goto (-26), 3) := by decide +kernel
theorem d_G_chooseFrom_31 : decode b_G_chooseFrom 31 = .ok (.iconst (-1), 1) := by decide +kernel
theorem d_G_chooseFrom_32 : decode b_G_chooseFrom 32 = .ok (.ireturn, 1) := by decide +kernel
theorem d_G_chooseFewestTokens_0 : decode b_G_chooseFewestTokens 0 = .ok (.iconst (-1), 1) := by decide +kernel
theorem d_G_chooseFewestTokens_1 : decode b_G_chooseFewestTokens 1 = .ok (.istore_n 1, 1) := by decide +kernel
theorem d_G_chooseFewestTokens_2 : decode b_G_chooseFewestTokens 2 = .ok (.iconst 0, 1) := by decide +kernel
theorem d_G_chooseFewestTokens_3 : decode b_G_chooseFewestTokens 3 = .ok (.istore_n 2, 1) := by decide +kernel
theorem d_G_chooseFewestTokens_4 : decode b_G_chooseFewestTokens 4 = .ok (.iconst 0, 1) := by decide +kernel
theorem d_G_chooseFewestTokens_5 : decode b_G_chooseFewestTokens 5 = .ok (.istore_n 3, 1) := by decide +kernel
theorem d_G_chooseFewestTokens_6 : decode b_G_chooseFewestTokens 6 = .ok (.iload_n 3, 1) := by decide +kernel
theorem d_G_chooseFewestTokens_7 : decode b_G_chooseFewestTokens 7 = .ok (.bipush 8, 2) := by decide +kernel
theorem d_G_chooseFewestTokens_9 : decode b_G_chooseFewestTokens 9 = .ok (.if_icmp .ge 40, 3) := by decide +kernel
theorem d_G_chooseFewestTokens_12 : decode b_G_chooseFewestTokens 12 = .ok (.aload_n 0, 1) := by decide +kernel
theorem d_G_chooseFewestTokens_13 : decode b_G_chooseFewestTokens 13 = .ok (.iload_n 3, 1) := by decide +kernel
theorem d_G_chooseFewestTokens_14 : decode b_G_chooseFewestTokens 14 = .ok (.invokevirtual 188, 3) := by decide +kernel
theorem d_G_chooseFewestTokens_17 : decode b_G_chooseFewestTokens 17 = .ok (.ifCond .eq 26, 3) := by decide +kernel
theorem d_G_chooseFewestTokens_20 : decode b_G_chooseFewestTokens 20 = .ok (.aload_n 0, 1) := by decide +kernel
theorem d_G_chooseFewestTokens_21 : decode b_G_chooseFewestTokens 21 = .ok (.iload_n 3, 1) := by decide +kernel
theorem d_G_chooseFewestTokens_22 : decode b_G_chooseFewestTokens 22 = .ok (.invokevirtual 191, 3) := by decide +kernel
theorem d_G_chooseFewestTokens_25 : decode b_G_chooseFewestTokens 25 = .ok (.istore 4, 2) := by decide +kernel
theorem d_G_chooseFewestTokens_27 : decode b_G_chooseFewestTokens 27 = .ok (.iload_n 1, 1) := by decide +kernel
theorem d_G_chooseFewestTokens_28 : decode b_G_chooseFewestTokens 28 = .ok (.iconst (-1), 1) := by decide +kernel
theorem d_G_chooseFewestTokens_29 : decode b_G_chooseFewestTokens 29 = .ok (.if_icmp .eq 9, 3) := by decide +kernel
theorem d_G_chooseFewestTokens_32 : decode b_G_chooseFewestTokens 32 = .ok (.iload 4, 2) := by decide +kernel
theorem d_G_chooseFewestTokens_34 : decode b_G_chooseFewestTokens 34 = .ok (.iload_n 2, 1) := by decide +kernel
theorem d_G_chooseFewestTokens_35 : decode b_G_chooseFewestTokens 35 = .ok (.if_icmp .ge 8, 3) := by decide +kernel
theorem d_G_chooseFewestTokens_38 : decode b_G_chooseFewestTokens 38 = .ok (.iload_n 3, 1) := by decide +kernel
theorem d_G_chooseFewestTokens_39 : decode b_G_chooseFewestTokens 39 = .ok (.istore_n 1, 1) := by decide +kernel
theorem d_G_chooseFewestTokens_40 : decode b_G_chooseFewestTokens 40 = .ok (.iload 4, 2) := by decide +kernel
theorem d_G_chooseFewestTokens_42 : decode b_G_chooseFewestTokens 42 = .ok (.istore_n 2, 1) := by decide +kernel
theorem d_G_chooseFewestTokens_43 : decode b_G_chooseFewestTokens 43 = .ok (.iinc 3 1, 3) := by decide +kernel
theorem d_G_chooseFewestTokens_46 : decode b_G_chooseFewestTokens 46 = .ok (.goto (-40), 3) := by decide +kernel
theorem d_G_chooseFewestTokens_49 : decode b_G_chooseFewestTokens 49 = .ok (.iload_n 1, 1) := by decide +kernel
theorem d_G_chooseFewestTokens_50 : decode b_G_chooseFewestTokens 50 = .ok (.ireturn, 1) := by decide +kernel
theorem d_G_tokensWonBy_0 : decode b_G_tokensWonBy 0 = .ok (.iconst 0, 1) := by decide +kernel
theorem d_G_tokensWonBy_1 : decode b_G_tokensWonBy 1 = .ok (.istore_n 2, 1) := by decide +kernel
theorem d_G_tokensWonBy_2 : decode b_G_tokensWonBy 2 = .ok (.iconst 0, 1) := by decide +kernel
theorem d_G_tokensWonBy_3 : decode b_G_tokensWonBy 3 = .ok (.istore_n 3, 1) := by decide +kernel
theorem d_G_tokensWonBy_4 : decode b_G_tokensWonBy 4 = .ok (.iload_n 3, 1) := by decide +kernel
theorem d_G_tokensWonBy_5 : decode b_G_tokensWonBy 5 = .ok (.aload_n 0, 1) := by decide +kernel
theorem d_G_tokensWonBy_6 : decode b_G_tokensWonBy 6 = .ok (.getfield 57, 3) := by decide +kernel
theorem d_G_tokensWonBy_9 : decode b_G_tokensWonBy 9 = .ok (.if_icmp .ge 51, 3) := by decide +kernel
theorem d_G_tokensWonBy_12 : decode b_G_tokensWonBy 12 = .ok (.aload_n 0, 1) := by decide +kernel
theorem d_G_tokensWonBy_13 : decode b_G_tokensWonBy 13 = .ok (.getfield 17, 3) := by decide +kernel
theorem d_G_tokensWonBy_16 : decode b_G_tokensWonBy 16 = .ok (.iload_n 3, 1) := by decide +kernel
theorem d_G_tokensWonBy_17 : decode b_G_tokensWonBy 17 = .ok (.aaload, 1) := by decide +kernel
theorem d_G_tokensWonBy_18 : decode b_G_tokensWonBy 18 = .ok (.astore 4, 2) := by decide +kernel
theorem d_G_tokensWonBy_20 : decode b_G_tokensWonBy 20 = .ok (.aload 4, 2) := by decide +kernel
theorem d_G_tokensWonBy_22 : decode b_G_tokensWonBy 22 = .ok (.getfield 60, 3) := by decide +kernel
theorem d_G_tokensWonBy_25 : decode b_G_tokensWonBy 25 = .ok (.iload_n 1, 1) := by decide +kernel
theorem d_G_tokensWonBy_26 : decode b_G_tokensWonBy 26 = .ok (.if_icmp .ne 11, 3) := by decide +kernel
theorem d_G_tokensWonBy_29 : decode b_G_tokensWonBy 29 = .ok (.iload_n 2, 1) := by decide +kernel
theorem d_G_tokensWonBy_30 : decode b_G_tokensWonBy 30 = .ok (.aload 4, 2) := by decide +kernel
theorem d_G_tokensWonBy_32 : decode b_G_tokensWonBy 32 = .ok (.getfield 66, 3) := by decide +kernel
theorem d_G_tokensWonBy_35 : decode b_G_tokensWonBy 35 = .ok (.iadd, 1) := by decide +kernel
theorem d_G_tokensWonBy_36 : decode b_G_tokensWonBy 36 = .ok (.istore_n 2, 1) := by decide +kernel
theorem d_G_tokensWonBy_37 : decode b_G_tokensWonBy 37 = .ok (.aload 4, 2) := by decide +kernel
theorem d_G_tokensWonBy_39 : decode b_G_tokensWonBy 39 = .ok (.getfield 63, 3) := by decide +kernel
theorem d_G_tokensWonBy_42 : decode b_G_tokensWonBy 42 = .ok (.iload_n 1, 1) := by decide +kernel
theorem d_G_tokensWonBy_43 : decode b_G_tokensWonBy 43 = .ok (.if_icmp .ne 11, 3) := by decide +kernel
theorem d_G_tokensWonBy_46 : decode b_G_tokensWonBy 46 = .ok (.iload_n 2, 1) := by decide +kernel
theorem d_G_tokensWonBy_47 : decode b_G_tokensWonBy 47 = .ok (.aload 4, 2) := by decide +kernel
theorem d_G_tokensWonBy_49 : decode b_G_tokensWonBy 49 = .ok (.getfield 69, 3) := by decide +kernel
theorem d_G_tokensWonBy_52 : decode b_G_tokensWonBy 52 = .ok (.isub, 1) := by decide +kernel
theorem d_G_tokensWonBy_53 : decode b_G_tokensWonBy 53 = .ok (.istore_n 2, 1) := by decide +kernel
theorem d_G_tokensWonBy_54 : decode b_G_tokensWonBy 54 = .ok (.iinc 3 1, 3) := by decide +kernel
theorem d_G_tokensWonBy_57 : decode b_G_tokensWonBy 57 = .ok (.goto (-53), 3) := by decide +kernel
theorem d_G_tokensWonBy_60 : decode b_G_tokensWonBy 60 = .ok (.iload_n 2, 1) := by decide +kernel
theorem d_G_tokensWonBy_61 : decode b_G_tokensWonBy 61 = .ok (.ireturn, 1) := by decide +kernel
theorem d_G_canFire_0 : decode b_G_canFire 0 = .ok (.aload_n 0, 1) := by decide +kernel
theorem d_G_canFire_1 : decode b_G_canFire 1 = .ok (.getfield 11, 3) := by decide +kernel
theorem d_G_canFire_4 : decode b_G_canFire 4 = .ok (.iload_n 1, 1) := by decide +kernel
theorem d_G_canFire_5 : decode b_G_canFire 5 = .ok (.aaload, 1) := by decide +kernel
theorem d_G_canFire_6 : decode b_G_canFire 6 = .ok (.invokevirtual 194, 3) := by decide +kernel
theorem d_G_canFire_9 : decode b_G_canFire 9 = .ok (.ifCond .eq 15, 3) := by decide +kernel
theorem d_G_canFire_12 : decode b_G_canFire 12 = .ok (.aload_n 0, 1) := by decide +kernel
theorem d_G_canFire_13 : decode b_G_canFire 13 = .ok (.iload_n 1, 1) := by decide +kernel
theorem d_G_canFire_14 : decode b_G_canFire 14 = .ok (.invokevirtual 197, 3) := by decide +kernel
theorem d_G_canFire_17 : decode b_G_canFire 17 = .ok (.ifCond .eq 7, 3) := by decide +kernel
theorem d_G_canFire_20 : decode b_G_canFire 20 = .ok (.iconst 1, 1) := by decide +kernel
theorem d_G_canFire_21 : decode b_G_canFire 21 = .ok (.goto 4, 3) := by decide +kernel
theorem d_G_canFire_24 : decode b_G_canFire 24 = .ok (.iconst 0, 1) := by decide +kernel
theorem d_G_canFire_25 : decode b_G_canFire 25 = .ok (.ireturn, 1) := by decide +kernel
theorem d_G_isReady_0 : decode b_G_isReady 0 = .ok (.iconst 0, 1) := by decide +kernel
theorem d_G_isReady_1 : decode b_G_isReady 1 = .ok (.istore_n 2, 1) := by decide +kernel
theorem d_G_isReady_2 : decode b_G_isReady 2 = .ok (.iload_n 2, 1) := by decide +kernel
theorem d_G_isReady_3 : decode b_G_isReady 3 = .ok (.aload_n 0, 1) := by decide +kernel
theorem d_G_isReady_4 : decode b_G_isReady 4 = .ok (.getfield 57, 3) := by decide +kernel
theorem d_G_isReady_7 : decode b_G_isReady 7 = .ok (.if_icmp .ge 37, 3) := by decide +kernel
theorem d_G_isReady_10 : decode b_G_isReady 10 = .ok (.aload_n 0, 1) := by decide +kernel
theorem d_G_isReady_11 : decode b_G_isReady 11 = .ok (.getfield 17, 3) := by decide +kernel
theorem d_G_isReady_14 : decode b_G_isReady 14 = .ok (.iload_n 2, 1) := by decide +kernel
theorem d_G_isReady_15 : decode b_G_isReady 15 = .ok (.aaload, 1) := by decide +kernel
theorem d_G_isReady_16 : decode b_G_isReady 16 = .ok (.astore_n 3, 1) := by decide +kernel
theorem d_G_isReady_17 : decode b_G_isReady 17 = .ok (.aload_n 3, 1) := by decide +kernel
theorem d_G_isReady_18 : decode b_G_isReady 18 = .ok (.getfield 63, 3) := by decide +kernel
theorem d_G_isReady_21 : decode b_G_isReady 21 = .ok (.iload_n 1, 1) := by decide +kernel
theorem d_G_isReady_22 : decode b_G_isReady 22 = .ok (.if_icmp .ne 16, 3) := by decide +kernel
theorem d_G_isReady_25 : decode b_G_isReady 25 = .ok (.aload_n 3, 1) := by decide +kernel
theorem d_G_isReady_26 : decode b_G_isReady 26 = .ok (.getfield 123, 3) := by decide +kernel
theorem d_G_isReady_29 : decode b_G_isReady 29 = .ok (.aload_n 3, 1) := by decide +kernel
theorem d_G_isReady_30 : decode b_G_isReady 30 = .ok (.getfield 69, 3) := by decide +kernel
theorem d_G_isReady_33 : decode b_G_isReady 33 = .ok (.if_icmp .ge 5, 3) := by decide +kernel
theorem d_G_isReady_36 : decode b_G_isReady 36 = .ok (.iconst 0, 1) := by decide +kernel
theorem d_G_isReady_37 : decode b_G_isReady 37 = .ok (.ireturn, 1) := by decide +kernel
theorem d_G_isReady_38 : decode b_G_isReady 38 = .ok (.iinc 2 1, 3) := by decide +kernel
theorem d_G_isReady_41 : decode b_G_isReady 41 = .ok (.goto (-39), 3) := by decide +kernel
theorem d_G_isReady_44 : decode b_G_isReady 44 = .ok (.iconst 1, 1) := by decide +kernel
theorem d_G_isReady_45 : decode b_G_isReady 45 = .ok (.ireturn, 1) := by decide +kernel
theorem d_G_leastDue_0 : decode b_G_leastDue 0 = .ok (.iconst 0, 1) := by decide +kernel
theorem d_G_leastDue_1 : decode b_G_leastDue 1 = .ok (.istore_n 1, 1) := by decide +kernel
theorem d_G_leastDue_2 : decode b_G_leastDue 2 = .ok (.iload_n 1, 1) := by decide +kernel
theorem d_G_leastDue_3 : decode b_G_leastDue 3 = .ok (.bipush 8, 2) := by decide +kernel
theorem d_G_leastDue_5 : decode b_G_leastDue 5 = .ok (.if_icmp .ge 23, 3) := by decide +kernel
theorem d_G_leastDue_8 : decode b_G_leastDue 8 = .ok (.aload_n 0, 1) := by decide +kernel
theorem d_G_leastDue_9 : decode b_G_leastDue 9 = .ok (.getfield 11, 3) := by decide +kernel
theorem d_G_leastDue_12 : decode b_G_leastDue 12 = .ok (.iload_n 1, 1) := by decide +kernel
theorem d_G_leastDue_13 : decode b_G_leastDue 13 = .ok (.aaload, 1) := by decide +kernel
theorem d_G_leastDue_14 : decode b_G_leastDue 14 = .ok (.invokevirtual 194, 3) := by decide +kernel
theorem d_G_leastDue_17 : decode b_G_leastDue 17 = .ok (.ifCond .eq 5, 3) := by decide +kernel
theorem d_G_leastDue_20 : decode b_G_leastDue 20 = .ok (.iload_n 1, 1) := by decide +kernel
theorem d_G_leastDue_21 : decode b_G_leastDue 21 = .ok (.ireturn, 1) := by decide +kernel
theorem d_G_leastDue_22 : decode b_G_leastDue 22 = .ok (.iinc 1 1, 3) := by decide +kernel
theorem d_G_leastDue_25 : decode b_G_leastDue 25 = .ok (.goto (-23), 3) := by decide +kernel
theorem d_G_leastDue_28 : decode b_G_leastDue 28 = .ok (.iconst (-1), 1) := by decide +kernel
theorem d_G_leastDue_29 : decode b_G_leastDue 29 = .ok (.ireturn, 1) := by decide +kernel
theorem d_G_fireCounting_0 : decode b_G_fireCounting 0 = .ok (.iconst 0, 1) := by decide +kernel
theorem d_G_fireCounting_1 : decode b_G_fireCounting 1 = .ok (.istore_n 2, 1) := by decide +kernel
theorem d_G_fireCounting_2 : decode b_G_fireCounting 2 = .ok (.iload_n 2, 1) := by decide +kernel
theorem d_G_fireCounting_3 : decode b_G_fireCounting 3 = .ok (.aload_n 0, 1) := by decide +kernel
theorem d_G_fireCounting_4 : decode b_G_fireCounting 4 = .ok (.getfield 57, 3) := by decide +kernel
theorem d_G_fireCounting_7 : decode b_G_fireCounting 7 = .ok (.if_icmp .ge 73, 3) := by decide +kernel
theorem d_G_fireCounting_10 : decode b_G_fireCounting 10 = .ok (.aload_n 0, 1) := by decide +kernel
theorem d_G_fireCounting_11 : decode b_G_fireCounting 11 = .ok (.getfield 17, 3) := by decide +kernel
theorem d_G_fireCounting_14 : decode b_G_fireCounting 14 = .ok (.iload_n 2, 1) := by decide +kernel
theorem d_G_fireCounting_15 : decode b_G_fireCounting 15 = .ok (.aaload, 1) := by decide +kernel
theorem d_G_fireCounting_16 : decode b_G_fireCounting 16 = .ok (.astore_n 3, 1) := by decide +kernel
theorem d_G_fireCounting_17 : decode b_G_fireCounting 17 = .ok (.aload_n 3, 1) := by decide +kernel
theorem d_G_fireCounting_18 : decode b_G_fireCounting 18 = .ok (.getfield 63, 3) := by decide +kernel
theorem d_G_fireCounting_21 : decode b_G_fireCounting 21 = .ok (.iload_n 1, 1) := by decide +kernel
theorem d_G_fireCounting_22 : decode b_G_fireCounting 22 = .ok (.if_icmp .ne 16, 3) := by decide +kernel
theorem d_G_fireCounting_25 : decode b_G_fireCounting 25 = .ok (.aload_n 3, 1) := by decide +kernel
theorem d_G_fireCounting_26 : decode b_G_fireCounting 26 = .ok (.dup, 1) := by decide +kernel
theorem d_G_fireCounting_27 : decode b_G_fireCounting 27 = .ok (.getfield 123, 3) := by decide +kernel
theorem d_G_fireCounting_30 : decode b_G_fireCounting 30 = .ok (.aload_n 3, 1) := by decide +kernel
theorem d_G_fireCounting_31 : decode b_G_fireCounting 31 = .ok (.getfield 69, 3) := by decide +kernel
theorem d_G_fireCounting_34 : decode b_G_fireCounting 34 = .ok (.isub, 1) := by decide +kernel
theorem d_G_fireCounting_35 : decode b_G_fireCounting 35 = .ok (.putfield 123, 3) := by decide +kernel
theorem d_G_fireCounting_38 : decode b_G_fireCounting 38 = .ok (.aload_n 3, 1) := by decide +kernel
theorem d_G_fireCounting_39 : decode b_G_fireCounting 39 = .ok (.getfield 60, 3) := by decide +kernel
theorem d_G_fireCounting_42 : decode b_G_fireCounting 42 = .ok (.iload_n 1, 1) := by decide +kernel
theorem d_G_fireCounting_43 : decode b_G_fireCounting 43 = .ok (.if_icmp .ne 16, 3) := by decide +kernel
theorem d_G_fireCounting_46 : decode b_G_fireCounting 46 = .ok (.aload_n 3, 1) := by decide +kernel
theorem d_G_fireCounting_47 : decode b_G_fireCounting 47 = .ok (.dup, 1) := by decide +kernel
theorem d_G_fireCounting_48 : decode b_G_fireCounting 48 = .ok (.getfield 123, 3) := by decide +kernel
theorem d_G_fireCounting_51 : decode b_G_fireCounting 51 = .ok (.aload_n 3, 1) := by decide +kernel
theorem d_G_fireCounting_52 : decode b_G_fireCounting 52 = .ok (.getfield 66, 3) := by decide +kernel
theorem d_G_fireCounting_55 : decode b_G_fireCounting 55 = .ok (.iadd, 1) := by decide +kernel
theorem d_G_fireCounting_56 : decode b_G_fireCounting 56 = .ok (.putfield 123, 3) := by decide +kernel
theorem d_G_fireCounting_59 : decode b_G_fireCounting 59 = .ok (.aload_n 3, 1) := by decide +kernel
theorem d_G_fireCounting_60 : decode b_G_fireCounting 60 = .ok (.aload_n 3, 1) := by decide +kernel
theorem d_G_fireCounting_61 : decode b_G_fireCounting 61 = .ok (.getfield 108, 3) := by decide +kernel
theorem d_G_fireCounting_64 : decode b_G_fireCounting 64 = .ok (.aload_n 3, 1) := by decide +kernel
theorem d_G_fireCounting_65 : decode b_G_fireCounting 65 = .ok (.getfield 123, 3) := by decide +kernel
theorem d_G_fireCounting_68 : decode b_G_fireCounting 68 = .ok (.invokestatic 141, 3) := by decide +kernel
theorem d_G_fireCounting_71 : decode b_G_fireCounting 71 = .ok (.putfield 108, 3) := by decide +kernel
theorem d_G_fireCounting_74 : decode b_G_fireCounting 74 = .ok (.iinc 2 1, 3) := by decide +kernel
theorem d_G_fireCounting_77 : decode b_G_fireCounting 77 = .ok (.goto (-75), 3) := by decide +kernel
theorem d_G_fireCounting_80 : decode b_G_fireCounting 80 = .ok (.aload_n 0, 1) := by decide +kernel
theorem d_G_fireCounting_81 : decode b_G_fireCounting 81 = .ok (.getfield 11, 3) := by decide +kernel
theorem d_G_fireCounting_84 : decode b_G_fireCounting 84 = .ok (.iload_n 1, 1) := by decide +kernel
theorem d_G_fireCounting_85 : decode b_G_fireCounting 85 = .ok (.aaload, 1) := by decide +kernel
theorem d_G_fireCounting_86 : decode b_G_fireCounting 86 = .ok (.dup, 1) := by decide +kernel
theorem d_G_fireCounting_87 : decode b_G_fireCounting 87 = .ok (.getfield 170, 3) := by decide +kernel
theorem d_G_fireCounting_90 : decode b_G_fireCounting 90 = .ok (.iconst 1, 1) := by decide +kernel
theorem d_G_fireCounting_91 : decode b_G_fireCounting 91 = .ok (.iadd, 1) := by decide +kernel
theorem d_G_fireCounting_92 : decode b_G_fireCounting 92 = .ok (.putfield 170, 3) := by decide +kernel
theorem d_G_fireCounting_95 : decode b_G_fireCounting 95 = .ok (.return_, 1) := by decide +kernel
theorem d_G_setRunAsAtFirst_0 : decode b_G_setRunAsAtFirst 0 = .ok (.iconst 0, 1) := by decide +kernel
theorem d_G_setRunAsAtFirst_1 : decode b_G_setRunAsAtFirst 1 = .ok (.istore_n 1, 1) := by decide +kernel
theorem d_G_setRunAsAtFirst_2 : decode b_G_setRunAsAtFirst 2 = .ok (.iload_n 1, 1) := by decide +kernel
theorem d_G_setRunAsAtFirst_3 : decode b_G_setRunAsAtFirst 3 = .ok (.bipush 8, 2) := by decide +kernel
theorem d_G_setRunAsAtFirst_5 : decode b_G_setRunAsAtFirst 5 = .ok (.if_icmp .ge 18, 3) := by decide +kernel
theorem d_G_setRunAsAtFirst_8 : decode b_G_setRunAsAtFirst 8 = .ok (.aload_n 0, 1) := by decide +kernel
theorem d_G_setRunAsAtFirst_9 : decode b_G_setRunAsAtFirst 9 = .ok (.getfield 11, 3) := by decide +kernel
theorem d_G_setRunAsAtFirst_12 : decode b_G_setRunAsAtFirst 12 = .ok (.iload_n 1, 1) := by decide +kernel
theorem d_G_setRunAsAtFirst_13 : decode b_G_setRunAsAtFirst 13 = .ok (.aaload, 1) := by decide +kernel
theorem d_G_setRunAsAtFirst_14 : decode b_G_setRunAsAtFirst 14 = .ok (.invokevirtual 200, 3) := by decide +kernel
theorem d_G_setRunAsAtFirst_17 : decode b_G_setRunAsAtFirst 17 = .ok (.iinc 1 1, 3) := by decide +kernel
theorem d_G_setRunAsAtFirst_20 : decode b_G_setRunAsAtFirst 20 = .ok (.goto (-18), 3) := by decide +kernel
theorem d_G_setRunAsAtFirst_23 : decode b_G_setRunAsAtFirst 23 = .ok (.iconst 0, 1) := by decide +kernel
theorem d_G_setRunAsAtFirst_24 : decode b_G_setRunAsAtFirst 24 = .ok (.istore_n 1, 1) := by decide +kernel
theorem d_G_setRunAsAtFirst_25 : decode b_G_setRunAsAtFirst 25 = .ok (.iload_n 1, 1) := by decide +kernel
theorem d_G_setRunAsAtFirst_26 : decode b_G_setRunAsAtFirst 26 = .ok (.aload_n 0, 1) := by decide +kernel
theorem d_G_setRunAsAtFirst_27 : decode b_G_setRunAsAtFirst 27 = .ok (.getfield 57, 3) := by decide +kernel
theorem d_G_setRunAsAtFirst_30 : decode b_G_setRunAsAtFirst 30 = .ok (.if_icmp .ge 18, 3) := by decide +kernel
theorem d_G_setRunAsAtFirst_33 : decode b_G_setRunAsAtFirst 33 = .ok (.aload_n 0, 1) := by decide +kernel
theorem d_G_setRunAsAtFirst_34 : decode b_G_setRunAsAtFirst 34 = .ok (.getfield 17, 3) := by decide +kernel
theorem d_G_setRunAsAtFirst_37 : decode b_G_setRunAsAtFirst 37 = .ok (.iload_n 1, 1) := by decide +kernel
theorem d_G_setRunAsAtFirst_38 : decode b_G_setRunAsAtFirst 38 = .ok (.aaload, 1) := by decide +kernel
theorem d_G_setRunAsAtFirst_39 : decode b_G_setRunAsAtFirst 39 = .ok (.invokevirtual 203, 3) := by decide +kernel
theorem d_G_setRunAsAtFirst_42 : decode b_G_setRunAsAtFirst 42 = .ok (.iinc 1 1, 3) := by decide +kernel
theorem d_G_setRunAsAtFirst_45 : decode b_G_setRunAsAtFirst 45 = .ok (.goto (-20), 3) := by decide +kernel
theorem d_G_setRunAsAtFirst_48 : decode b_G_setRunAsAtFirst 48 = .ok (.aload_n 0, 1) := by decide +kernel
theorem d_G_setRunAsAtFirst_49 : decode b_G_setRunAsAtFirst 49 = .ok (.iconst 0, 1) := by decide +kernel
theorem d_G_setRunAsAtFirst_50 : decode b_G_setRunAsAtFirst 50 = .ok (.putfield 102, 3) := by decide +kernel
theorem d_G_setRunAsAtFirst_53 : decode b_G_setRunAsAtFirst 53 = .ok (.return_, 1) := by decide +kernel
theorem d_G_fire_0 : decode b_G_fire 0 = .ok (.iconst 0, 1) := by decide +kernel
theorem d_G_fire_1 : decode b_G_fire 1 = .ok (.istore_n 2, 1) := by decide +kernel
theorem d_G_fire_2 : decode b_G_fire 2 = .ok (.iconst 0, 1) := by decide +kernel
theorem d_G_fire_3 : decode b_G_fire 3 = .ok (.istore_n 3, 1) := by decide +kernel
theorem d_G_fire_4 : decode b_G_fire 4 = .ok (.iload_n 3, 1) := by decide +kernel
theorem d_G_fire_5 : decode b_G_fire 5 = .ok (.aload_n 0, 1) := by decide +kernel
theorem d_G_fire_6 : decode b_G_fire 6 = .ok (.getfield 57, 3) := by decide +kernel
theorem d_G_fire_9 : decode b_G_fire 9 = .ok (.if_icmp .ge 34, 3) := by decide +kernel
theorem d_G_fire_12 : decode b_G_fire 12 = .ok (.aload_n 0, 1) := by decide +kernel
theorem d_G_fire_13 : decode b_G_fire 13 = .ok (.getfield 17, 3) := by decide +kernel
theorem d_G_fire_16 : decode b_G_fire 16 = .ok (.iload_n 3, 1) := by decide +kernel
theorem d_G_fire_17 : decode b_G_fire 17 = .ok (.aaload, 1) := by decide +kernel
theorem d_G_fire_18 : decode b_G_fire 18 = .ok (.getfield 63, 3) := by decide +kernel
theorem d_G_fire_21 : decode b_G_fire 21 = .ok (.iload_n 1, 1) := by decide +kernel
theorem d_G_fire_22 : decode b_G_fire 22 = .ok (.if_icmp .ne 15, 3) := by decide +kernel
theorem d_G_fire_25 : decode b_G_fire 25 = .ok (.iload_n 2, 1) := by decide +kernel
theorem d_G_fire_26 : decode b_G_fire 26 = .ok (.aload_n 0, 1) := by decide +kernel
theorem d_G_fire_27 : decode b_G_fire 27 = .ok (.getfield 17, 3) := by decide +kernel
theorem d_G_fire_30 : decode b_G_fire 30 = .ok (.iload_n 3, 1) := by decide +kernel
theorem d_G_fire_31 : decode b_G_fire 31 = .ok (.aaload, 1) := by decide +kernel
theorem d_G_fire_32 : decode b_G_fire 32 = .ok (.invokevirtual 206, 3) := by decide +kernel
theorem d_G_fire_35 : decode b_G_fire 35 = .ok (.iadd, 1) := by decide +kernel
theorem d_G_fire_36 : decode b_G_fire 36 = .ok (.istore_n 2, 1) := by decide +kernel
theorem d_G_fire_37 : decode b_G_fire 37 = .ok (.iinc 3 1, 3) := by decide +kernel
theorem d_G_fire_40 : decode b_G_fire 40 = .ok (.goto (-36), 3) := by decide +kernel
theorem d_G_fire_43 : decode b_G_fire 43 = .ok (.aload_n 0, 1) := by decide +kernel
theorem d_G_fire_44 : decode b_G_fire 44 = .ok (.getfield 11, 3) := by decide +kernel
theorem d_G_fire_47 : decode b_G_fire 47 = .ok (.iload_n 1, 1) := by decide +kernel
theorem d_G_fire_48 : decode b_G_fire 48 = .ok (.aaload, 1) := by decide +kernel
theorem d_G_fire_49 : decode b_G_fire 49 = .ok (.iload_n 2, 1) := by decide +kernel
theorem d_G_fire_50 : decode b_G_fire 50 = .ok (.invokevirtual 209, 3) := by decide +kernel
theorem d_G_fire_53 : decode b_G_fire 53 = .ok (.istore_n 3, 1) := by decide +kernel
theorem d_G_fire_54 : decode b_G_fire 54 = .ok (.aload_n 0, 1) := by decide +kernel
theorem d_G_fire_55 : decode b_G_fire 55 = .ok (.getfield 11, 3) := by decide +kernel
theorem d_G_fire_58 : decode b_G_fire 58 = .ok (.iload_n 1, 1) := by decide +kernel
theorem d_G_fire_59 : decode b_G_fire 59 = .ok (.aaload, 1) := by decide +kernel
theorem d_G_fire_60 : decode b_G_fire 60 = .ok (.iload_n 3, 1) := by decide +kernel
theorem d_G_fire_61 : decode b_G_fire 61 = .ok (.putfield 118, 3) := by decide +kernel
theorem d_G_fire_64 : decode b_G_fire 64 = .ok (.iconst 0, 1) := by decide +kernel
theorem d_G_fire_65 : decode b_G_fire 65 = .ok (.istore 4, 2) := by decide +kernel
theorem d_G_fire_67 : decode b_G_fire 67 = .ok (.iload 4, 2) := by decide +kernel
theorem d_G_fire_69 : decode b_G_fire 69 = .ok (.aload_n 0, 1) := by decide +kernel
theorem d_G_fire_70 : decode b_G_fire 70 = .ok (.getfield 57, 3) := by decide +kernel
theorem d_G_fire_73 : decode b_G_fire 73 = .ok (.if_icmp .ge 34, 3) := by decide +kernel
theorem d_G_fire_76 : decode b_G_fire 76 = .ok (.aload_n 0, 1) := by decide +kernel
theorem d_G_fire_77 : decode b_G_fire 77 = .ok (.getfield 17, 3) := by decide +kernel
theorem d_G_fire_80 : decode b_G_fire 80 = .ok (.iload 4, 2) := by decide +kernel
theorem d_G_fire_82 : decode b_G_fire 82 = .ok (.aaload, 1) := by decide +kernel
theorem d_G_fire_83 : decode b_G_fire 83 = .ok (.getfield 60, 3) := by decide +kernel
theorem d_G_fire_86 : decode b_G_fire 86 = .ok (.iload_n 1, 1) := by decide +kernel
theorem d_G_fire_87 : decode b_G_fire 87 = .ok (.if_icmp .ne 14, 3) := by decide +kernel
theorem d_G_fire_90 : decode b_G_fire 90 = .ok (.aload_n 0, 1) := by decide +kernel
theorem d_G_fire_91 : decode b_G_fire 91 = .ok (.getfield 17, 3) := by decide +kernel
theorem d_G_fire_94 : decode b_G_fire 94 = .ok (.iload 4, 2) := by decide +kernel
theorem d_G_fire_96 : decode b_G_fire 96 = .ok (.aaload, 1) := by decide +kernel
theorem d_G_fire_97 : decode b_G_fire 97 = .ok (.iload_n 3, 1) := by decide +kernel
theorem d_G_fire_98 : decode b_G_fire 98 = .ok (.invokevirtual 212, 3) := by decide +kernel
theorem d_G_fire_101 : decode b_G_fire 101 = .ok (.iinc 4 1, 3) := by decide +kernel
theorem d_G_fire_104 : decode b_G_fire 104 = .ok (.goto (-37), 3) := by decide +kernel
theorem d_G_fire_107 : decode b_G_fire 107 = .ok (.return_, 1) := by decide +kernel
theorem d_G_canNest_0 : decode b_G_canNest 0 = .ok (.iconst 0, 1) := by decide +kernel
theorem d_G_canNest_1 : decode b_G_canNest 1 = .ok (.istore_n 1, 1) := by decide +kernel
theorem d_G_canNest_2 : decode b_G_canNest 2 = .ok (.iload_n 1, 1) := by decide +kernel
theorem d_G_canNest_3 : decode b_G_canNest 3 = .ok (.aload_n 0, 1) := by decide +kernel
theorem d_G_canNest_4 : decode b_G_canNest 4 = .ok (.getfield 57, 3) := by decide +kernel
theorem d_G_canNest_7 : decode b_G_canNest 7 = .ok (.if_icmp .ge 53, 3) := by decide +kernel
theorem d_G_canNest_10 : decode b_G_canNest 10 = .ok (.aload_n 0, 1) := by decide +kernel
theorem d_G_canNest_11 : decode b_G_canNest 11 = .ok (.getfield 17, 3) := by decide +kernel
theorem d_G_canNest_14 : decode b_G_canNest 14 = .ok (.iload_n 1, 1) := by decide +kernel
theorem d_G_canNest_15 : decode b_G_canNest 15 = .ok (.aaload, 1) := by decide +kernel
theorem d_G_canNest_16 : decode b_G_canNest 16 = .ok (.astore_n 2, 1) := by decide +kernel
theorem d_G_canNest_17 : decode b_G_canNest 17 = .ok (.aload_n 2, 1) := by decide +kernel
theorem d_G_canNest_18 : decode b_G_canNest 18 = .ok (.getfield 60, 3) := by decide +kernel
theorem d_G_canNest_21 : decode b_G_canNest 21 = .ok (.aload_n 2, 1) := by decide +kernel
theorem d_G_canNest_22 : decode b_G_canNest 22 = .ok (.getfield 63, 3) := by decide +kernel
theorem d_G_canNest_25 : decode b_G_canNest 25 = .ok (.if_icmp .ge 14, 3) := by decide +kernel
theorem d_G_canNest_28 : decode b_G_canNest 28 = .ok (.aload_n 2, 1) := by decide +kernel
theorem d_G_canNest_29 : decode b_G_canNest 29 = .ok (.getfield 72, 3) := by decide +kernel
theorem d_G_canNest_32 : decode b_G_canNest 32 = .ok (.ifCond .ne 7, 3) := by decide +kernel
theorem d_G_canNest_35 : decode b_G_canNest 35 = .ok (.iconst 1, 1) := by decide +kernel
theorem d_G_canNest_36 : decode b_G_canNest 36 = .ok (.goto 4, 3) := by decide +kernel
theorem d_G_canNest_39 : decode b_G_canNest 39 = .ok (.iconst 0, 1) := by decide +kernel
theorem d_G_canNest_40 : decode b_G_canNest 40 = .ok (.istore_n 3, 1) := by decide +kernel
theorem d_G_canNest_41 : decode b_G_canNest 41 = .ok (.iload_n 3, 1) := by decide +kernel
theorem d_G_canNest_42 : decode b_G_canNest 42 = .ok (.ifCond .ne 12, 3) := by decide +kernel
theorem d_G_canNest_45 : decode b_G_canNest 45 = .ok (.aload_n 2, 1) := by decide +kernel
theorem d_G_canNest_46 : decode b_G_canNest 46 = .ok (.invokevirtual 215, 3) := by decide +kernel
theorem d_G_canNest_49 : decode b_G_canNest 49 = .ok (.ifCond .ne 5, 3) := by decide +kernel
theorem d_G_canNest_52 : decode b_G_canNest 52 = .ok (.iconst 0, 1) := by decide +kernel
theorem d_G_canNest_53 : decode b_G_canNest 53 = .ok (.ireturn, 1) := by decide +kernel
theorem d_G_canNest_54 : decode b_G_canNest 54 = .ok (.iinc 1 1, 3) := by decide +kernel
theorem d_G_canNest_57 : decode b_G_canNest 57 = .ok (.goto (-55), 3) := by decide +kernel
theorem d_G_canNest_60 : decode b_G_canNest 60 = .ok (.iconst 1, 1) := by decide +kernel
theorem d_G_canNest_61 : decode b_G_canNest 61 = .ok (.ireturn, 1) := by decide +kernel
theorem d_G_listActors_0 : decode b_G_listActors 0 = .ok (.iconst 0, 1) := by decide +kernel
theorem d_G_listActors_1 : decode b_G_listActors 1 = .ok (.istore_n 1, 1) := by decide +kernel
theorem d_G_listActors_2 : decode b_G_listActors 2 = .ok (.iconst 0, 1) := by decide +kernel
theorem d_G_listActors_3 : decode b_G_listActors 3 = .ok (.istore_n 2, 1) := by decide +kernel
theorem d_G_listActors_4 : decode b_G_listActors 4 = .ok (.iload_n 2, 1) := by decide +kernel
theorem d_G_listActors_5 : decode b_G_listActors 5 = .ok (.bipush 8, 2) := by decide +kernel
theorem d_G_listActors_7 : decode b_G_listActors 7 = .ok (.if_icmp .ge 31, 3) := by decide +kernel
theorem d_G_listActors_10 : decode b_G_listActors 10 = .ok (.aload_n 0, 1) := by decide +kernel
theorem d_G_listActors_11 : decode b_G_listActors 11 = .ok (.getfield 11, 3) := by decide +kernel
theorem d_G_listActors_14 : decode b_G_listActors 14 = .ok (.iload_n 2, 1) := by decide +kernel
theorem d_G_listActors_15 : decode b_G_listActors 15 = .ok (.aaload, 1) := by decide +kernel
theorem d_G_listActors_16 : decode b_G_listActors 16 = .ok (.getfield 39, 3) := by decide +kernel
theorem d_G_listActors_19 : decode b_G_listActors 19 = .ok (.ifCond .eq 13, 3) := by decide +kernel
theorem d_G_listActors_22 : decode b_G_listActors 22 = .ok (.aload_n 0, 1) := by decide +kernel
theorem d_G_listActors_23 : decode b_G_listActors 23 = .ok (.getfield 21, 3) := by decide +kernel
theorem d_G_listActors_26 : decode b_G_listActors 26 = .ok (.iload_n 1, 1) := by decide +kernel
theorem d_G_listActors_27 : decode b_G_listActors 27 = .ok (.iload_n 2, 1) := by decide +kernel
theorem d_G_listActors_28 : decode b_G_listActors 28 = .ok (.iastore, 1) := by decide +kernel
theorem d_G_listActors_29 : decode b_G_listActors 29 = .ok (.iinc 1 1, 3) := by decide +kernel
theorem d_G_listActors_32 : decode b_G_listActors 32 = .ok (.iinc 2 1, 3) := by decide +kernel
theorem d_G_listActors_35 : decode b_G_listActors 35 = .ok (.goto (-31), 3) := by decide +kernel
theorem d_G_listActors_38 : decode b_G_listActors 38 = .ok (.iload_n 1, 1) := by decide +kernel
theorem d_G_listActors_39 : decode b_G_listActors 39 = .ok (.ireturn, 1) := by decide +kernel
theorem d_G_nestedRoom_0 : decode b_G_nestedRoom 0 = .ok (.aload_n 0, 1) := by decide +kernel
theorem d_G_nestedRoom_1 : decode b_G_nestedRoom 1 = .ok (.invokevirtual 218, 3) := by decide +kernel
theorem d_G_nestedRoom_4 : decode b_G_nestedRoom 4 = .ok (.istore_n 1, 1) := by decide +kernel
theorem d_G_nestedRoom_5 : decode b_G_nestedRoom 5 = .ok (.iconst 0, 1) := by decide +kernel
theorem d_G_nestedRoom_6 : decode b_G_nestedRoom 6 = .ok (.istore_n 2, 1) := by decide +kernel
theorem d_G_nestedRoom_7 : decode b_G_nestedRoom 7 = .ok (.iload_n 2, 1) := by decide +kernel
theorem d_G_nestedRoom_8 : decode b_G_nestedRoom 8 = .ok (.iload_n 1, 1) := by decide +kernel
theorem d_G_nestedRoom_9 : decode b_G_nestedRoom 9 = .ok (.if_icmp .ge 18, 3) := by decide +kernel
theorem d_G_nestedRoom_12 : decode b_G_nestedRoom 12 = .ok (.aload_n 0, 1) := by decide +kernel
theorem d_G_nestedRoom_13 : decode b_G_nestedRoom 13 = .ok (.getfield 27, 3) := by decide +kernel
theorem d_G_nestedRoom_16 : decode b_G_nestedRoom 16 = .ok (.iload_n 2, 1) := by decide +kernel
theorem d_G_nestedRoom_17 : decode b_G_nestedRoom 17 = .ok (.aaload, 1) := by decide +kernel
theorem d_G_nestedRoom_18 : decode b_G_nestedRoom 18 = .ok (.iload_n 2, 1) := by decide +kernel
theorem d_G_nestedRoom_19 : decode b_G_nestedRoom 19 = .ok (.iconst 0, 1) := by decide +kernel
theorem d_G_nestedRoom_20 : decode b_G_nestedRoom 20 = .ok (.iastore, 1) := by decide +kernel
theorem d_G_nestedRoom_21 : decode b_G_nestedRoom 21 = .ok (.iinc 2 1, 3) := by decide +kernel
theorem d_G_nestedRoom_24 : decode b_G_nestedRoom 24 = .ok (.goto (-17), 3) := by decide +kernel
theorem d_G_nestedRoom_27 : decode b_G_nestedRoom 27 = .ok (.iconst 2, 1) := by decide +kernel
theorem d_G_nestedRoom_28 : decode b_G_nestedRoom 28 = .ok (.istore_n 2, 1) := by decide +kernel
theorem d_G_nestedRoom_29 : decode b_G_nestedRoom 29 = .ok (.iload_n 2, 1) := by decide +kernel
theorem d_G_nestedRoom_30 : decode b_G_nestedRoom 30 = .ok (.iload_n 1, 1) := by decide +kernel
theorem d_G_nestedRoom_31 : decode b_G_nestedRoom 31 = .ok (.if_icmp .gt 46, 3) := by decide +kernel
theorem d_G_nestedRoom_34 : decode b_G_nestedRoom 34 = .ok (.iconst 0, 1) := by decide +kernel
theorem d_G_nestedRoom_35 : decode b_G_nestedRoom 35 = .ok (.istore_n 3, 1) := by decide +kernel
theorem d_G_nestedRoom_36 : decode b_G_nestedRoom 36 = .ok (.iload_n 3, 1) := by decide +kernel
theorem d_G_nestedRoom_37 : decode b_G_nestedRoom 37 = .ok (.iload_n 2, 1) := by decide +kernel
theorem d_G_nestedRoom_38 : decode b_G_nestedRoom 38 = .ok (.iadd, 1) := by decide +kernel
theorem d_G_nestedRoom_39 : decode b_G_nestedRoom 39 = .ok (.iload_n 1, 1) := by decide +kernel
theorem d_G_nestedRoom_40 : decode b_G_nestedRoom 40 = .ok (.if_icmp .gt 31, 3) := by decide +kernel
theorem d_G_nestedRoom_43 : decode b_G_nestedRoom 43 = .ok (.aload_n 0, 1) := by decide +kernel
theorem d_G_nestedRoom_44 : decode b_G_nestedRoom 44 = .ok (.getfield 27, 3) := by decide +kernel
theorem d_G_nestedRoom_47 : decode b_G_nestedRoom 47 = .ok (.iload_n 3, 1) := by decide +kernel
theorem d_G_nestedRoom_48 : decode b_G_nestedRoom 48 = .ok (.aaload, 1) := by decide +kernel
theorem d_G_nestedRoom_49 : decode b_G_nestedRoom 49 = .ok (.iload_n 3, 1) := by decide +kernel
theorem d_G_nestedRoom_50 : decode b_G_nestedRoom 50 = .ok (.iload_n 2, 1) := by decide +kernel
theorem d_G_nestedRoom_51 : decode b_G_nestedRoom 51 = .ok (.iadd, 1) := by decide +kernel
theorem d_G_nestedRoom_52 : decode b_G_nestedRoom 52 = .ok (.iconst 1, 1) := by decide +kernel
theorem d_G_nestedRoom_53 : decode b_G_nestedRoom 53 = .ok (.isub, 1) := by decide +kernel
theorem d_G_nestedRoom_54 : decode b_G_nestedRoom 54 = .ok (.aload_n 0, 1) := by decide +kernel
theorem d_G_nestedRoom_55 : decode b_G_nestedRoom 55 = .ok (.iload_n 3, 1) := by decide +kernel
theorem d_G_nestedRoom_56 : decode b_G_nestedRoom 56 = .ok (.iload_n 3, 1) := by decide +kernel
theorem d_G_nestedRoom_57 : decode b_G_nestedRoom 57 = .ok (.iload_n 2, 1) := by decide +kernel
theorem d_G_nestedRoom_58 : decode b_G_nestedRoom 58 = .ok (.iadd, 1) := by decide +kernel
theorem d_G_nestedRoom_59 : decode b_G_nestedRoom 59 = .ok (.iconst 1, 1) := by decide +kernel
theorem d_G_nestedRoom_60 : decode b_G_nestedRoom 60 = .ok (.isub, 1) := by decide +kernel
theorem d_G_nestedRoom_61 : decode b_G_nestedRoom 61 = .ok (.invokevirtual 221, 3) := by decide +kernel
theorem d_G_nestedRoom_64 : decode b_G_nestedRoom 64 = .ok (.iastore, 1) := by decide +kernel
theorem d_G_nestedRoom_65 : decode b_G_nestedRoom 65 = .ok (.iinc 3 1, 3) := by decide +kernel
theorem d_G_nestedRoom_68 : decode b_G_nestedRoom 68 = .ok (.goto (-32), 3) := by decide +kernel
theorem d_G_nestedRoom_71 : decode b_G_nestedRoom 71 = .ok (.iinc 2 1, 3) := by decide +kernel
theorem d_G_nestedRoom_74 : decode b_G_nestedRoom 74 = .ok (.goto (-45), 3) := by decide +kernel
theorem d_G_nestedRoom_77 : decode b_G_nestedRoom 77 = .ok (.iload_n 1, 1) := by decide +kernel
theorem d_G_nestedRoom_78 : decode b_G_nestedRoom 78 = .ok (.ifCond .ne 7, 3) := by decide +kernel
theorem d_G_nestedRoom_81 : decode b_G_nestedRoom 81 = .ok (.iconst 0, 1) := by decide +kernel
theorem d_G_nestedRoom_82 : decode b_G_nestedRoom 82 = .ok (.goto 13, 3) := by decide +kernel
theorem d_G_nestedRoom_85 : decode b_G_nestedRoom 85 = .ok (.aload_n 0, 1) := by decide +kernel
theorem d_G_nestedRoom_86 : decode b_G_nestedRoom 86 = .ok (.getfield 27, 3) := by decide +kernel
theorem d_G_nestedRoom_89 : decode b_G_nestedRoom 89 = .ok (.iconst 0, 1) := by decide +kernel
theorem d_G_nestedRoom_90 : decode b_G_nestedRoom 90 = .ok (.aaload, 1) := by decide +kernel
theorem d_G_nestedRoom_91 : decode b_G_nestedRoom 91 = .ok (.iload_n 1, 1) := by decide +kernel
theorem d_G_nestedRoom_92 : decode b_G_nestedRoom 92 = .ok (.iconst 1, 1) := by decide +kernel
theorem d_G_nestedRoom_93 : decode b_G_nestedRoom 93 = .ok (.isub, 1) := by decide +kernel
theorem d_G_nestedRoom_94 : decode b_G_nestedRoom 94 = .ok (.iaload, 1) := by decide +kernel
theorem d_G_nestedRoom_95 : decode b_G_nestedRoom 95 = .ok (.ireturn, 1) := by decide +kernel
theorem d_G_costOfStretch_0 : decode b_G_costOfStretch 0 = .ok (.aload_n 0, 1) := by decide +kernel
theorem d_G_costOfStretch_1 : decode b_G_costOfStretch 1 = .ok (.iload_n 1, 1) := by decide +kernel
theorem d_G_costOfStretch_2 : decode b_G_costOfStretch 2 = .ok (.iload_n 2, 1) := by decide +kernel
theorem d_G_costOfStretch_3 : decode b_G_costOfStretch 3 = .ok (.invokevirtual 224, 3) := by decide +kernel
theorem d_G_costOfStretch_6 : decode b_G_costOfStretch 6 = .ok (.istore_n 3, 1) := by decide +kernel
theorem d_G_costOfStretch_7 : decode b_G_costOfStretch 7 = .ok (.iconst 0, 1) := by decide +kernel
theorem d_G_costOfStretch_8 : decode b_G_costOfStretch 8 = .ok (.istore 4, 2) := by decide +kernel
theorem d_G_costOfStretch_10 : decode b_G_costOfStretch 10 = .ok (.iload_n 1, 1) := by decide +kernel
theorem d_G_costOfStretch_11 : decode b_G_costOfStretch 11 = .ok (.istore 5, 2) := by decide +kernel
theorem d_G_costOfStretch_13 : decode b_G_costOfStretch 13 = .ok (.iload 5, 2) := by decide +kernel
theorem d_G_costOfStretch_15 : decode b_G_costOfStretch 15 = .ok (.iload_n 2, 1) := by decide +kernel
theorem d_G_costOfStretch_16 : decode b_G_costOfStretch 16 = .ok (.if_icmp .ge 82, 3) := by decide +kernel
theorem d_G_costOfStretch_19 : decode b_G_costOfStretch 19 = .ok (.aload_n 0, 1) := by decide +kernel
theorem d_G_costOfStretch_20 : decode b_G_costOfStretch 20 = .ok (.aload_n 0, 1) := by decide +kernel
theorem d_G_costOfStretch_21 : decode b_G_costOfStretch 21 = .ok (.getfield 21, 3) := by decide +kernel
theorem d_G_costOfStretch_24 : decode b_G_costOfStretch 24 = .ok (.iload_n 1, 1) := by decide +kernel
theorem d_G_costOfStretch_25 : decode b_G_costOfStretch 25 = .ok (.iaload, 1) := by decide +kernel
theorem d_G_costOfStretch_26 : decode b_G_costOfStretch 26 = .ok (.aload_n 0, 1) := by decide +kernel
theorem d_G_costOfStretch_27 : decode b_G_costOfStretch 27 = .ok (.getfield 21, 3) := by decide +kernel
theorem d_G_costOfStretch_30 : decode b_G_costOfStretch 30 = .ok (.iload 5, 2) := by decide +kernel
theorem d_G_costOfStretch_32 : decode b_G_costOfStretch 32 = .ok (.iaload, 1) := by decide +kernel
theorem d_G_costOfStretch_33 : decode b_G_costOfStretch 33 = .ok (.aload_n 0, 1) := by decide +kernel
theorem d_G_costOfStretch_34 : decode b_G_costOfStretch 34 = .ok (.getfield 21, 3) := by decide +kernel
theorem d_G_costOfStretch_37 : decode b_G_costOfStretch 37 = .ok (.iload_n 2, 1) := by decide +kernel
theorem d_G_costOfStretch_38 : decode b_G_costOfStretch 38 = .ok (.iaload, 1) := by decide +kernel
theorem d_G_costOfStretch_39 : decode b_G_costOfStretch 39 = .ok (.invokevirtual 227, 3) := by decide +kernel
theorem d_G_costOfStretch_42 : decode b_G_costOfStretch 42 = .ok (.iload_n 3, 1) := by decide +kernel
theorem d_G_costOfStretch_43 : decode b_G_costOfStretch 43 = .ok (.idiv, 1) := by decide +kernel
theorem d_G_costOfStretch_44 : decode b_G_costOfStretch 44 = .ok (.istore 6, 2) := by decide +kernel
theorem d_G_costOfStretch_46 : decode b_G_costOfStretch 46 = .ok (.aload_n 0, 1) := by decide +kernel
theorem d_G_costOfStretch_47 : decode b_G_costOfStretch 47 = .ok (.getfield 27, 3) := by decide +kernel
theorem d_G_costOfStretch_50 : decode b_G_costOfStretch 50 = .ok (.iload_n 1, 1) := by decide +kernel
theorem d_G_costOfStretch_51 : decode b_G_costOfStretch 51 = .ok (.aaload, 1) := by decide +kernel
theorem d_G_costOfStretch_52 : decode b_G_costOfStretch 52 = .ok (.iload 5, 2) := by decide +kernel
theorem d_G_costOfStretch_54 : decode b_G_costOfStretch 54 = .ok (.iaload, 1) := by decide +kernel
theorem d_G_costOfStretch_55 : decode b_G_costOfStretch 55 = .ok (.aload_n 0, 1) := by decide +kernel
theorem d_G_costOfStretch_56 : decode b_G_costOfStretch 56 = .ok (.getfield 27, 3) := by decide +kernel
theorem d_G_costOfStretch_59 : decode b_G_costOfStretch 59 = .ok (.iload 5, 2) := by decide +kernel
theorem d_G_costOfStretch_61 : decode b_G_costOfStretch 61 = .ok (.iconst 1, 1) := by decide +kernel
theorem d_G_costOfStretch_62 : decode b_G_costOfStretch 62 = .ok (.iadd, 1) := by decide +kernel
theorem d_G_costOfStretch_63 : decode b_G_costOfStretch 63 = .ok (.aaload, 1) := by decide +kernel
theorem d_G_costOfStretch_64 : decode b_G_costOfStretch 64 = .ok (.iload_n 2, 1) := by decide +kernel
theorem d_G_costOfStretch_65 : decode b_G_costOfStretch 65 = .ok (.iaload, 1) := by decide +kernel
theorem d_G_costOfStretch_66 : decode b_G_costOfStretch 66 = .ok (.iadd, 1) := by decide +kernel
theorem d_G_costOfStretch_67 : decode b_G_costOfStretch 67 = .ok (.iload 6, 2) := by decide +kernel
theorem d_G_costOfStretch_69 : decode b_G_costOfStretch 69 = .ok (.iadd, 1) := by decide +kernel
theorem d_G_costOfStretch_70 : decode b_G_costOfStretch 70 = .ok (.istore 7, 2) := by decide +kernel
theorem d_G_costOfStretch_72 : decode b_G_costOfStretch 72 = .ok (.iload 5, 2) := by decide +kernel
theorem d_G_costOfStretch_74 : decode b_G_costOfStretch 74 = .ok (.iload_n 1, 1) := by decide +kernel
theorem d_G_costOfStretch_75 : decode b_G_costOfStretch 75 = .ok (.if_icmp .ne 8, 3) := by decide +kernel
theorem d_G_costOfStretch_78 : decode b_G_costOfStretch 78 = .ok (.iload 7, 2) := by decide +kernel
theorem d_G_costOfStretch_80 : decode b_G_costOfStretch 80 = .ok (.goto 10, 3) := by decide +kernel
theorem d_G_costOfStretch_83 : decode b_G_costOfStretch 83 = .ok (.iload 4, 2) := by decide +kernel
theorem d_G_costOfStretch_85 : decode b_G_costOfStretch 85 = .ok (.iload 7, 2) := by decide +kernel
theorem d_G_costOfStretch_87 : decode b_G_costOfStretch 87 = .ok (.invokestatic 231, 3) := by decide +kernel
theorem d_G_costOfStretch_90 : decode b_G_costOfStretch 90 = .ok (.istore 4, 2) := by decide +kernel
theorem d_G_costOfStretch_92 : decode b_G_costOfStretch 92 = .ok (.iinc 5 1, 3) := by decide +kernel
theorem d_G_costOfStretch_95 : decode b_G_costOfStretch 95 = .ok (.goto (-82), 3) := by decide +kernel
theorem d_G_costOfStretch_98 : decode b_G_costOfStretch 98 = .ok (.iload 4, 2) := by decide +kernel
theorem d_G_costOfStretch_100 : decode b_G_costOfStretch 100 = .ok (.ireturn, 1) := by decide +kernel
theorem d_G_divisorOfStretch_0 : decode b_G_divisorOfStretch 0 = .ok (.iconst 0, 1) := by decide +kernel
theorem d_G_divisorOfStretch_1 : decode b_G_divisorOfStretch 1 = .ok (.istore_n 3, 1) := by decide +kernel
theorem d_G_divisorOfStretch_2 : decode b_G_divisorOfStretch 2 = .ok (.iload_n 1, 1) := by decide +kernel
theorem d_G_divisorOfStretch_3 : decode b_G_divisorOfStretch 3 = .ok (.istore 4, 2) := by decide +kernel
theorem d_G_divisorOfStretch_5 : decode b_G_divisorOfStretch 5 = .ok (.iload 4, 2) := by decide +kernel
theorem d_G_divisorOfStretch_7 : decode b_G_divisorOfStretch 7 = .ok (.iload_n 2, 1) := by decide +kernel
theorem d_G_divisorOfStretch_8 : decode b_G_divisorOfStretch 8 = .ok (.if_icmp .gt 29, 3) := by decide +kernel
theorem d_G_divisorOfStretch_11 : decode b_G_divisorOfStretch 11 = .ok (.iload_n 3, 1) := by decide +kernel
theorem d_G_divisorOfStretch_12 : decode b_G_divisorOfStretch 12 = .ok (.aload_n 0, 1) := by decide +kernel
theorem d_G_divisorOfStretch_13 : decode b_G_divisorOfStretch 13 = .ok (.getfield 11, 3) := by decide +kernel
theorem d_G_divisorOfStretch_16 : decode b_G_divisorOfStretch 16 = .ok (.aload_n 0, 1) := by decide +kernel
theorem d_G_divisorOfStretch_17 : decode b_G_divisorOfStretch 17 = .ok (.getfield 21, 3) := by decide +kernel
theorem d_G_divisorOfStretch_20 : decode b_G_divisorOfStretch 20 = .ok (.iload 4, 2) := by decide +kernel
theorem d_G_divisorOfStretch_22 : decode b_G_divisorOfStretch 22 = .ok (.iaload, 1) := by decide +kernel
theorem d_G_divisorOfStretch_23 : decode b_G_divisorOfStretch 23 = .ok (.aaload, 1) := by decide +kernel
theorem d_G_divisorOfStretch_24 : decode b_G_divisorOfStretch 24 = .ok (.getfield 105, 3) := by decide +kernel
theorem d_G_divisorOfStretch_27 : decode b_G_divisorOfStretch 27 = .ok (.invokestatic 164, 3) := by decide +kernel
theorem d_G_divisorOfStretch_30 : decode b_G_divisorOfStretch 30 = .ok (.istore_n 3, 1) := by decide +kernel
theorem d_G_divisorOfStretch_31 : decode b_G_divisorOfStretch 31 = .ok (.iinc 4 1, 3) := by decide +kernel
theorem d_G_divisorOfStretch_34 : decode b_G_divisorOfStretch 34 = .ok (.goto (-29), 3) := by decide +kernel
theorem d_G_divisorOfStretch_37 : decode b_G_divisorOfStretch 37 = .ok (.iload_n 3, 1) := by decide +kernel
theorem d_G_divisorOfStretch_38 : decode b_G_divisorOfStretch 38 = .ok (.iconst 1, 1) := by decide +kernel
theorem d_G_divisorOfStretch_39 : decode b_G_divisorOfStretch 39 = .ok (.invokestatic 141, 3) := by decide +kernel
theorem d_G_divisorOfStretch_42 : decode b_G_divisorOfStretch 42 = .ok (.ireturn, 1) := by decide +kernel
theorem d_G_tokensAcross_0 : decode b_G_tokensAcross 0 = .ok (.iconst 0, 1) := by decide +kernel
theorem d_G_tokensAcross_1 : decode b_G_tokensAcross 1 = .ok (.istore 4, 2) := by decide +kernel
theorem d_G_tokensAcross_3 : decode b_G_tokensAcross 3 = .ok (.iconst 0, 1) := by decide +kernel
theorem d_G_tokensAcross_4 : decode b_G_tokensAcross 4 = .ok (.istore 5, 2) := by decide +kernel
theorem d_G_tokensAcross_6 : decode b_G_tokensAcross 6 = .ok (.iload 5, 2) := by decide +kernel
theorem d_G_tokensAcross_8 : decode b_G_tokensAcross 8 = .ok (.aload_n 0, 1) := by decide +kernel
theorem d_G_tokensAcross_9 : decode b_G_tokensAcross 9 = .ok (.getfield 57, 3) := by decide +kernel
theorem d_G_tokensAcross_12 : decode b_G_tokensAcross 12 = .ok (.if_icmp .ge 70, 3) := by decide +kernel
theorem d_G_tokensAcross_15 : decode b_G_tokensAcross 15 = .ok (.aload_n 0, 1) := by decide +kernel
theorem d_G_tokensAcross_16 : decode b_G_tokensAcross 16 = .ok (.getfield 17, 3) := by decide +kernel
theorem d_G_tokensAcross_19 : decode b_G_tokensAcross 19 = .ok (.iload 5, 2) := by decide +kernel
theorem d_G_tokensAcross_21 : decode b_G_tokensAcross 21 = .ok (.aaload, 1) := by decide +kernel
theorem d_G_tokensAcross_22 : decode b_G_tokensAcross 22 = .ok (.astore 6, 2) := by decide +kernel
theorem d_G_tokensAcross_24 : decode b_G_tokensAcross 24 = .ok (.aload 6, 2) := by decide +kernel
theorem d_G_tokensAcross_26 : decode b_G_tokensAcross 26 = .ok (.getfield 60, 3) := by decide +kernel
theorem d_G_tokensAcross_29 : decode b_G_tokensAcross 29 = .ok (.iload_n 1, 1) := by decide +kernel
theorem d_G_tokensAcross_30 : decode b_G_tokensAcross 30 = .ok (.iload_n 2, 1) := by decide +kernel
theorem d_G_tokensAcross_31 : decode b_G_tokensAcross 31 = .ok (.invokestatic 35, 3) := by decide +kernel
theorem d_G_tokensAcross_34 : decode b_G_tokensAcross 34 = .ok (.ifCond .eq 42, 3) := by decide +kernel
theorem d_G_tokensAcross_37 : decode b_G_tokensAcross 37 = .ok (.aload 6, 2) := by decide +kernel
theorem d_G_tokensAcross_39 : decode b_G_tokensAcross 39 = .ok (.getfield 63, 3) := by decide +kernel
theorem d_G_tokensAcross_42 : decode b_G_tokensAcross 42 = .ok (.iload_n 2, 1) := by decide +kernel
theorem d_G_tokensAcross_43 : decode b_G_tokensAcross 43 = .ok (.iconst 1, 1) := by decide +kernel
theorem d_G_tokensAcross_44 : decode b_G_tokensAcross 44 = .ok (.iadd, 1) := by decide +kernel
theorem d_G_tokensAcross_45 : decode b_G_tokensAcross 45 = .ok (.iload_n 3, 1) := by decide +kernel
theorem d_G_tokensAcross_46 : decode b_G_tokensAcross 46 = .ok (.invokestatic 35, 3) := by decide +kernel
theorem d_G_tokensAcross_49 : decode b_G_tokensAcross 49 = .ok (.ifCond .eq 27, 3) := by decide +kernel
theorem d_G_tokensAcross_52 : decode b_G_tokensAcross 52 = .ok (.iload 4, 2) := by decide +kernel
theorem d_G_tokensAcross_54 : decode b_G_tokensAcross 54 = .ok (.aload 6, 2) := by decide +kernel
theorem d_G_tokensAcross_56 : decode b_G_tokensAcross 56 = .ok (.getfield 66, 3) := by decide +kernel
theorem d_G_tokensAcross_59 : decode b_G_tokensAcross 59 = .ok (.aload_n 0, 1) := by decide +kernel
theorem d_G_tokensAcross_60 : decode b_G_tokensAcross 60 = .ok (.getfield 11, 3) := by decide +kernel
theorem d_G_tokensAcross_63 : decode b_G_tokensAcross 63 = .ok (.aload 6, 2) := by decide +kernel
theorem d_G_tokensAcross_65 : decode b_G_tokensAcross 65 = .ok (.getfield 60, 3) := by decide +kernel
theorem d_G_tokensAcross_68 : decode b_G_tokensAcross 68 = .ok (.aaload, 1) := by decide +kernel
theorem d_G_tokensAcross_69 : decode b_G_tokensAcross 69 = .ok (.getfield 105, 3) := by decide +kernel
theorem d_G_tokensAcross_72 : decode b_G_tokensAcross 72 = .ok (.imul, 1) := by decide +kernel
theorem d_G_tokensAcross_73 : decode b_G_tokensAcross 73 = .ok (.iadd, 1) := by decide +kernel
theorem d_G_tokensAcross_74 : decode b_G_tokensAcross 74 = .ok (.istore 4, 2) := by decide +kernel
theorem d_G_tokensAcross_76 : decode b_G_tokensAcross 76 = .ok (.iinc 5 1, 3) := by decide +kernel
theorem d_G_tokensAcross_79 : decode b_G_tokensAcross 79 = .ok (.goto (-73), 3) := by decide +kernel
theorem d_G_tokensAcross_82 : decode b_G_tokensAcross 82 = .ok (.iload 4, 2) := by decide +kernel
theorem d_G_tokensAcross_84 : decode b_G_tokensAcross 84 = .ok (.ireturn, 1) := by decide +kernel

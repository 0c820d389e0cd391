set_option maxRecDepth 20000 in
theorem ggX7_init_X4_init : GoodIn wsX7_init wsX4_init := goodIn_r _ [15, 16, 2, 3, 17, 18, 19, 20, 21, 22, 35, 36, 37, 38, 39, 40] (by decide +kernel) (by decide +kernel)
set_option maxRecDepth 20000 in
theorem gX7_init_X4_init_n17 : GoodIn wsX7_init (wsX4_init) := ggX7_init_X4_init
set_option maxRecDepth 20000 in
theorem ggX7_init_X0_init : GoodIn wsX7_init wsX0_init := goodIn_r _ [24, 25, 2, 3, 17, 26, 27, 41, 42, 43] (by decide +kernel) (by decide +kernel)
set_option maxRecDepth 20000 in
theorem gX7_init_X0_init_n24 : GoodIn wsX7_init (wsX0_init) := ggX7_init_X0_init
theorem dX7_init_0 : decode cX7_init 0 = .ok (.aload_n 0, 1) := by decide +kernel
theorem dX7_init_1 : decode cX7_init 1 = .ok (.invokespecial 3, 3) := by decide +kernel
theorem dX7_init_4 : decode cX7_init 4 = .ok (.aload_n 0, 1) := by decide +kernel
theorem dX7_init_5 : decode cX7_init 5 = .ok (.bipush 8, 2) := by decide +kernel
theorem dX7_init_7 : decode cX7_init 7 = .ok (.anewarray 9, 3) := by decide +kernel
theorem dX7_init_10 : decode cX7_init 10 = .ok (.putfield 11, 3) := by decide +kernel
theorem dX7_init_13 : decode cX7_init 13 = .ok (.aload_n 0, 1) := by decide +kernel
theorem dX7_init_14 : decode cX7_init 14 = .ok (.new 15, 3) := by decide +kernel
theorem dX7_init_17 : decode cX7_init 17 = .ok (.dup, 1) := by decide +kernel
theorem dX7_init_18 : decode cX7_init 18 = .ok (.invokespecial 17, 3) := by decide +kernel
theorem dX7_init_21 : decode cX7_init 21 = .ok (.putfield 18, 3) := by decide +kernel
theorem dX7_init_24 : decode cX7_init 24 = .ok (.aload_n 0, 1) := by decide +kernel
theorem dX7_init_25 : decode cX7_init 25 = .ok (.new 22, 3) := by decide +kernel
theorem dX7_init_28 : decode cX7_init 28 = .ok (.dup, 1) := by decide +kernel
theorem dX7_init_29 : decode cX7_init 29 = .ok (.invokespecial 24, 3) := by decide +kernel
theorem dX7_init_32 : decode cX7_init 32 = .ok (.putfield 25, 3) := by decide +kernel
theorem dX7_init_35 : decode cX7_init 35 = .ok (.return_, 1) := by decide +kernel
set_option maxRecDepth 20000 in
theorem ggX7_stage_X7_within : GoodIn wsX7_stage wsX7_within := goodIn_r _ [9] (by decide +kernel) (by decide +kernel)
set_option maxRecDepth 20000 in
theorem gX7_stage_X7_within : GoodIn wsX7_stage (va_wsS RX7 29 yX7_within wsX7_within) := goodIn_app (goodIn_of _ (by decide +kernel)) ggX7_stage_X7_within
set_option maxRecDepth 20000 in
theorem ggX7_stage_X3_init : GoodIn wsX7_stage wsX3_init := goodIn_r _ [12, 13, 14, 15, 16, 17, 18, 19, 20, 21, 22, 23, 24, 25, 26, 27, 28, 29, 30, 31, 32, 33, 34, 35, 36, 37, 38, 39, 40, 41, 42, 43, 44, 45, 46, 47, 48, 49, 50, 51, 52, 53, 54, 55, 56, 57, 58, 59, 60, 61, 62, 63, 64, 65, 66, 93, 94, 95, 74, 75, 76, 77, 78, 79, 80, 81, 82, 83, 84, 85, 86, 87, 88, 89, 90, 91, 92, 96, 97, 98, 99, 100, 101, 102, 103, 104, 105, 106, 107, 108, 109, 110] (by decide +kernel) (by decide +kernel)
set_option maxRecDepth 20000 in
theorem gX7_stage_X3_init : GoodIn wsX7_stage (wsX3_init) := ggX7_stage_X3_init
theorem dX7_stage_0 : decode cX7_stage 0 = .ok (.iload_n 1, 1) := by decide +kernel
theorem dX7_stage_1 : decode cX7_stage 1 = .ok (.iconst 0, 1) := by decide +kernel
theorem dX7_stage_2 : decode cX7_stage 2 = .ok (.iconst 4, 1) := by decide +kernel
theorem dX7_stage_3 : decode cX7_stage 3 = .ok (.invokestatic 29, 3) := by decide +kernel
theorem dX7_stage_6 : decode cX7_stage 6 = .ok (.ifCond .eq 33, 3) := by decide +kernel
theorem dX7_stage_9 : decode cX7_stage 9 = .ok (.iload_n 2, 1) := by decide +kernel
theorem dX7_stage_10 : decode cX7_stage 10 = .ok (.iconst 1, 1) := by decide +kernel
theorem dX7_stage_11 : decode cX7_stage 11 = .ok (.bipush 32, 2) := by decide +kernel
theorem dX7_stage_13 : decode cX7_stage 13 = .ok (.invokestatic 29, 3) := by decide +kernel
theorem dX7_stage_16 : decode cX7_stage 16 = .ok (.ifCond .eq 23, 3) := by decide +kernel
theorem dX7_stage_19 : decode cX7_stage 19 = .ok (.iload_n 3, 1) := by decide +kernel
theorem dX7_stage_20 : decode cX7_stage 20 = .ok (.iconst 1, 1) := by decide +kernel
theorem dX7_stage_21 : decode cX7_stage 21 = .ok (.iconst 4, 1) := by decide +kernel
theorem dX7_stage_22 : decode cX7_stage 22 = .ok (.invokestatic 29, 3) := by decide +kernel
theorem dX7_stage_25 : decode cX7_stage 25 = .ok (.ifCond .eq 14, 3) := by decide +kernel
theorem dX7_stage_28 : decode cX7_stage 28 = .ok (.iload 4, 2) := by decide +kernel
theorem dX7_stage_30 : decode cX7_stage 30 = .ok (.iconst 0, 1) := by decide +kernel
theorem dX7_stage_31 : decode cX7_stage 31 = .ok (.bipush 9, 2) := by decide +kernel
theorem dX7_stage_33 : decode cX7_stage 33 = .ok (.invokestatic 29, 3) := by decide +kernel
theorem dX7_stage_36 : decode cX7_stage 36 = .ok (.ifCond .ne 5, 3) := by decide +kernel
theorem dX7_stage_39 : decode cX7_stage 39 = .ok (.iconst (-1), 1) := by decide +kernel
theorem dX7_stage_40 : decode cX7_stage 40 = .ok (.ireturn, 1) := by decide +kernel
theorem dX7_stage_41 : decode cX7_stage 41 = .ok (.aload_n 0, 1) := by decide +kernel
theorem dX7_stage_42 : decode cX7_stage 42 = .ok (.getfield 33, 3) := by decide +kernel
theorem dX7_stage_45 : decode cX7_stage 45 = .ok (.bipush 8, 2) := by decide +kernel
theorem dX7_stage_47 : decode cX7_stage 47 = .ok (.if_icmp .lt 6, 3) := by decide +kernel
theorem dX7_stage_50 : decode cX7_stage 50 = .ok (.bipush (-2), 2) := by decide +kernel
theorem dX7_stage_52 : decode cX7_stage 52 = .ok (.ireturn, 1) := by decide +kernel
theorem dX7_stage_53 : decode cX7_stage 53 = .ok (.aload_n 0, 1) := by decide +kernel
theorem dX7_stage_54 : decode cX7_stage 54 = .ok (.getfield 11, 3) := by decide +kernel
theorem dX7_stage_57 : decode cX7_stage 57 = .ok (.aload_n 0, 1) := by decide +kernel
theorem dX7_stage_58 : decode cX7_stage 58 = .ok (.getfield 33, 3) := by decide +kernel
theorem dX7_stage_61 : decode cX7_stage 61 = .ok (.new 9, 3) := by decide +kernel
theorem dX7_stage_64 : decode cX7_stage 64 = .ok (.dup, 1) := by decide +kernel
theorem dX7_stage_65 : decode cX7_stage 65 = .ok (.iload_n 1, 1) := by decide +kernel
theorem dX7_stage_66 : decode cX7_stage 66 = .ok (.iload_n 2, 1) := by decide +kernel
theorem dX7_stage_67 : decode cX7_stage 67 = .ok (.iload_n 3, 1) := by decide +kernel
theorem dX7_stage_68 : decode cX7_stage 68 = .ok (.iload 4, 2) := by decide +kernel
theorem dX7_stage_70 : decode cX7_stage 70 = .ok (.invokespecial 37, 3) := by decide +kernel
theorem dX7_stage_73 : decode cX7_stage 73 = .ok (.aastore, 1) := by decide +kernel
theorem dX7_stage_74 : decode cX7_stage 74 = .ok (.aload_n 0, 1) := by decide +kernel
theorem dX7_stage_75 : decode cX7_stage 75 = .ok (.dup, 1) := by decide +kernel
theorem dX7_stage_76 : decode cX7_stage 76 = .ok (.getfield 33, 3) := by decide +kernel
theorem dX7_stage_79 : decode cX7_stage 79 = .ok (.iconst 1, 1) := by decide +kernel
theorem dX7_stage_80 : decode cX7_stage 80 = .ok (.iadd, 1) := by decide +kernel
theorem dX7_stage_81 : decode cX7_stage 81 = .ok (.putfield 33, 3) := by decide +kernel
theorem dX7_stage_84 : decode cX7_stage 84 = .ok (.aload_n 0, 1) := by decide +kernel
theorem dX7_stage_85 : decode cX7_stage 85 = .ok (.getfield 33, 3) := by decide +kernel
theorem dX7_stage_88 : decode cX7_stage 88 = .ok (.iconst 1, 1) := by decide +kernel
theorem dX7_stage_89 : decode cX7_stage 89 = .ok (.isub, 1) := by decide +kernel
theorem dX7_stage_90 : decode cX7_stage 90 = .ok (.ireturn, 1) := by decide +kernel
set_option maxRecDepth 20000 in
theorem ggX7_targets_X7_stageAt : GoodIn wsX7_targets wsX7_stageAt := goodIn_r _ [7, 8, 9, 10, 11, 6, 12, 36, 37, 38, 39, 40, 41, 42] (by decide +kernel) (by decide +kernel)
set_option maxRecDepth 20000 in
theorem gX7_targets_X7_stageAt : GoodIn wsX7_targets (wsV RX7 40 RX7 yX7_stageAt wsX7_stageAt) := goodIn_app (goodIn_of _ (by decide +kernel)) ggX7_targets_X7_stageAt
set_option maxRecDepth 20000 in
theorem ggX7_targets_X7_isTarget : GoodIn wsX7_targets wsX7_isTarget := goodIn_r _ [16, 8, 10, 11, 6, 12, 36, 37, 38, 39, 40, 41, 42] (by decide +kernel) (by decide +kernel)
set_option maxRecDepth 20000 in
theorem gX7_targets_X7_isTarget : GoodIn wsX7_targets (wsV RX7 44 RX7 yX7_isTarget wsX7_isTarget) := goodIn_app (goodIn_of _ (by decide +kernel)) ggX7_targets_X7_isTarget
theorem dX7_targets_0 : decode cX7_targets 0 = .ok (.aload_n 0, 1) := by decide +kernel
theorem dX7_targets_1 : decode cX7_targets 1 = .ok (.iload_n 1, 1) := by decide +kernel
theorem dX7_targets_2 : decode cX7_targets 2 = .ok (.invokevirtual 40, 3) := by decide +kernel
theorem dX7_targets_5 : decode cX7_targets 5 = .ok (.astore 4, 2) := by decide +kernel
theorem dX7_targets_7 : decode cX7_targets 7 = .ok (.aload 4, 2) := by decide +kernel
theorem dX7_targets_9 : decode cX7_targets 9 = .ok (.ifnull 19, 3) := by decide +kernel
theorem dX7_targets_12 : decode cX7_targets 12 = .ok (.aload_n 0, 1) := by decide +kernel
theorem dX7_targets_13 : decode cX7_targets 13 = .ok (.iload_n 2, 1) := by decide +kernel
theorem dX7_targets_14 : decode cX7_targets 14 = .ok (.invokevirtual 44, 3) := by decide +kernel
theorem dX7_targets_17 : decode cX7_targets 17 = .ok (.ifCond .eq 11, 3) := by decide +kernel
theorem dX7_targets_20 : decode cX7_targets 20 = .ok (.aload_n 0, 1) := by decide +kernel
theorem dX7_targets_21 : decode cX7_targets 21 = .ok (.iload_n 3, 1) := by decide +kernel
theorem dX7_targets_22 : decode cX7_targets 22 = .ok (.invokevirtual 44, 3) := by decide +kernel
theorem dX7_targets_25 : decode cX7_targets 25 = .ok (.ifCond .ne 5, 3) := by decide +kernel
theorem dX7_targets_28 : decode cX7_targets 28 = .ok (.iconst (-1), 1) := by decide +kernel
theorem dX7_targets_29 : decode cX7_targets 29 = .ok (.ireturn, 1) := by decide +kernel
theorem dX7_targets_30 : decode cX7_targets 30 = .ok (.aload 4, 2) := by decide +kernel
theorem dX7_targets_32 : decode cX7_targets 32 = .ok (.aload_n 0, 1) := by decide +kernel
theorem dX7_targets_33 : decode cX7_targets 33 = .ok (.iload_n 2, 1) := by decide +kernel
theorem dX7_targets_34 : decode cX7_targets 34 = .ok (.invokevirtual 40, 3) := by decide +kernel
theorem dX7_targets_37 : decode cX7_targets 37 = .ok (.putfield 48, 3) := by decide +kernel
theorem dX7_targets_40 : decode cX7_targets 40 = .ok (.aload 4, 2) := by decide +kernel
theorem dX7_targets_42 : decode cX7_targets 42 = .ok (.aload_n 0, 1) := by decide +kernel
theorem dX7_targets_43 : decode cX7_targets 43 = .ok (.iload_n 3, 1) := by decide +kernel
theorem dX7_targets_44 : decode cX7_targets 44 = .ok (.invokevirtual 40, 3) := by decide +kernel
theorem dX7_targets_47 : decode cX7_targets 47 = .ok (.putfield 52, 3) := by decide +kernel
theorem dX7_targets_50 : decode cX7_targets 50 = .ok (.iconst 1, 1) := by decide +kernel
theorem dX7_targets_51 : decode cX7_targets 51 = .ok (.ireturn, 1) := by decide +kernel
set_option maxRecDepth 20000 in
theorem ggX7_admit_X7_stageAt : GoodIn wsX7_admit wsX7_stageAt := goodIn_r _ [13, 14, 15, 16, 17, 12, 18, 38, 39, 40, 41, 42, 43, 44] (by decide +kernel) (by decide +kernel)
set_option maxRecDepth 20000 in
theorem gX7_admit_X7_stageAt : GoodIn wsX7_admit (wsV RX7 40 RX7 yX7_stageAt wsX7_stageAt) := goodIn_app (goodIn_of _ (by decide +kernel)) ggX7_admit_X7_stageAt
set_option maxRecDepth 20000 in
theorem ggX7_admit_X7_within : GoodIn wsX7_admit wsX7_within := goodIn_r _ [18] (by decide +kernel) (by decide +kernel)
set_option maxRecDepth 20000 in
theorem gX7_admit_X7_within : GoodIn wsX7_admit (va_wsS RX7 29 yX7_within wsX7_within) := goodIn_app (goodIn_of _ (by decide +kernel)) ggX7_admit_X7_within
theorem dX7_admit_0 : decode cX7_admit 0 = .ok (.aload_n 0, 1) := by decide +kernel
theorem dX7_admit_1 : decode cX7_admit 1 = .ok (.iload_n 1, 1) := by decide +kernel
theorem dX7_admit_2 : decode cX7_admit 2 = .ok (.invokevirtual 40, 3) := by decide +kernel
theorem dX7_admit_5 : decode cX7_admit 5 = .ok (.astore 5, 2) := by decide +kernel
theorem dX7_admit_7 : decode cX7_admit 7 = .ok (.aload 5, 2) := by decide +kernel
theorem dX7_admit_9 : decode cX7_admit 9 = .ok (.ifnull 35, 3) := by decide +kernel
theorem dX7_admit_12 : decode cX7_admit 12 = .ok (.iload_n 2, 1) := by decide +kernel
theorem dX7_admit_13 : decode cX7_admit 13 = .ok (.iconst 0, 1) := by decide +kernel
theorem dX7_admit_14 : decode cX7_admit 14 = .ok (.bipush 100, 2) := by decide +kernel
theorem dX7_admit_16 : decode cX7_admit 16 = .ok (.invokestatic 29, 3) := by decide +kernel
theorem dX7_admit_19 : decode cX7_admit 19 = .ok (.ifCond .eq 25, 3) := by decide +kernel
theorem dX7_admit_22 : decode cX7_admit 22 = .ok (.iload_n 3, 1) := by decide +kernel
theorem dX7_admit_23 : decode cX7_admit 23 = .ok (.iconst 1, 1) := by decide +kernel
theorem dX7_admit_24 : decode cX7_admit 24 = .ok (.bipush 100, 2) := by decide +kernel
theorem dX7_admit_26 : decode cX7_admit 26 = .ok (.invokestatic 29, 3) := by decide +kernel
theorem dX7_admit_29 : decode cX7_admit 29 = .ok (.ifCond .eq 15, 3) := by decide +kernel
theorem dX7_admit_32 : decode cX7_admit 32 = .ok (.iload 4, 2) := by decide +kernel
theorem dX7_admit_34 : decode cX7_admit 34 = .ok (.iconst 0, 1) := by decide +kernel
theorem dX7_admit_35 : decode cX7_admit 35 = .ok (.sipush 1000, 3) := by decide +kernel
theorem dX7_admit_38 : decode cX7_admit 38 = .ok (.invokestatic 29, 3) := by decide +kernel
theorem dX7_admit_41 : decode cX7_admit 41 = .ok (.ifCond .ne 5, 3) := by decide +kernel
theorem dX7_admit_44 : decode cX7_admit 44 = .ok (.iconst (-1), 1) := by decide +kernel
theorem dX7_admit_45 : decode cX7_admit 45 = .ok (.ireturn, 1) := by decide +kernel
theorem dX7_admit_46 : decode cX7_admit 46 = .ok (.aload 5, 2) := by decide +kernel
theorem dX7_admit_48 : decode cX7_admit 48 = .ok (.iload_n 2, 1) := by decide +kernel
theorem dX7_admit_49 : decode cX7_admit 49 = .ok (.putfield 55, 3) := by decide +kernel
theorem dX7_admit_52 : decode cX7_admit 52 = .ok (.aload 5, 2) := by decide +kernel
theorem dX7_admit_54 : decode cX7_admit 54 = .ok (.iload_n 3, 1) := by decide +kernel
theorem dX7_admit_55 : decode cX7_admit 55 = .ok (.putfield 58, 3) := by decide +kernel
theorem dX7_admit_58 : decode cX7_admit 58 = .ok (.aload 5, 2) := by decide +kernel
theorem dX7_admit_60 : decode cX7_admit 60 = .ok (.iload 4, 2) := by decide +kernel
theorem dX7_admit_62 : decode cX7_admit 62 = .ok (.putfield 61, 3) := by decide +kernel
theorem dX7_admit_65 : decode cX7_admit 65 = .ok (.aload 5, 2) := by decide +kernel
theorem dX7_admit_67 : decode cX7_admit 67 = .ok (.aload 5, 2) := by decide +kernel
theorem dX7_admit_69 : decode cX7_admit 69 = .ok (.getfield 64, 3) := by decide +kernel
theorem dX7_admit_72 : decode cX7_admit 72 = .ok (.iload_n 3, 1) := by decide +kernel
theorem dX7_admit_73 : decode cX7_admit 73 = .ok (.invokestatic 67, 3) := by decide +kernel
theorem dX7_admit_76 : decode cX7_admit 76 = .ok (.putfield 64, 3) := by decide +kernel
theorem dX7_admit_79 : decode cX7_admit 79 = .ok (.iconst 1, 1) := by decide +kernel
theorem dX7_admit_80 : decode cX7_admit 80 = .ok (.ireturn, 1) := by decide +kernel
set_option maxRecDepth 20000 in
theorem ggX7_put_X7_stageAt : GoodIn wsX7_put wsX7_stageAt := goodIn_r _ [6, 7, 8, 9, 10, 5, 11, 46, 47, 48, 49, 50, 51, 52] (by decide +kernel) (by decide +kernel)
set_option maxRecDepth 20000 in
theorem gX7_put_X7_stageAt : GoodIn wsX7_put (wsV RX7 40 RX7 yX7_stageAt wsX7_stageAt) := goodIn_app (goodIn_of _ (by decide +kernel)) ggX7_put_X7_stageAt
set_option maxRecDepth 20000 in
theorem ggX7_put_X3_ask : GoodIn wsX7_put wsX3_ask := goodIn_r _ [16, 17, 18, 19, 20, 21, 22, 15, 23, 24, 25, 26, 27, 53, 54, 55, 56, 57, 58, 59, 60, 61, 62, 63, 64, 65, 66, 67, 68, 69, 70, 71, 72, 73, 74, 75] (by decide +kernel) (by decide +kernel)
set_option maxRecDepth 20000 in
theorem gX7_put_X3_ask : GoodIn wsX7_put (wsV RX7 73 RX3 yX3_ask wsX3_ask) := goodIn_app (goodIn_of _ (by decide +kernel)) ggX7_put_X3_ask
set_option maxRecDepth 20000 in
theorem ggX7_put_X7_makeEvent : GoodIn wsX7_put wsX7_makeEvent := goodIn_r _ [31, 32, 46, 47, 48, 49, 50, 51, 52] (by decide +kernel) (by decide +kernel)
set_option maxRecDepth 20000 in
theorem gX7_put_X7_makeEvent : GoodIn wsX7_put (wsV RX7 77 RX7 yX7_makeEvent wsX7_makeEvent) := goodIn_app (goodIn_of _ (by decide +kernel)) ggX7_put_X7_makeEvent
set_option maxRecDepth 20000 in
theorem ggX7_put_X3_take : GoodIn wsX7_put wsX3_take := goodIn_r _ [36, 25, 18, 37, 38, 39, 40, 41, 42, 43, 44, 45, 53, 54, 55, 56, 57, 58, 59, 60, 61, 62, 63, 64, 65, 66, 67, 68, 69, 70, 71, 72, 73, 74, 75] (by decide +kernel) (by decide +kernel)
set_option maxRecDepth 20000 in
theorem gX7_put_X3_take : GoodIn wsX7_put (wsV RX7 83 RX3 yX3_take wsX3_take) := goodIn_app (goodIn_of _ (by decide +kernel)) ggX7_put_X3_take
theorem dX7_put_0 : decode cX7_put 0 = .ok (.aload_n 0, 1) := by decide +kernel
theorem dX7_put_1 : decode cX7_put 1 = .ok (.iload_n 1, 1) := by decide +kernel
theorem dX7_put_2 : decode cX7_put 2 = .ok (.invokevirtual 40, 3) := by decide +kernel
theorem dX7_put_5 : decode cX7_put 5 = .ok (.astore_n 3, 1) := by decide +kernel
theorem dX7_put_6 : decode cX7_put 6 = .ok (.aload_n 3, 1) := by decide +kernel
theorem dX7_put_7 : decode cX7_put 7 = .ok (.ifnonnull 5, 3) := by decide +kernel
theorem dX7_put_10 : decode cX7_put 10 = .ok (.iconst (-1), 1) := by decide +kernel
theorem dX7_put_11 : decode cX7_put 11 = .ok (.ireturn, 1) := by decide +kernel
theorem dX7_put_12 : decode cX7_put 12 = .ok (.aload_n 3, 1) := by decide +kernel
theorem dX7_put_13 : decode cX7_put 13 = .ok (.invokevirtual 73, 3) := by decide +kernel
theorem dX7_put_16 : decode cX7_put 16 = .ok (.istore 4, 2) := by decide +kernel
theorem dX7_put_18 : decode cX7_put 18 = .ok (.iload 4, 2) := by decide +kernel
theorem dX7_put_20 : decode cX7_put 20 = .ok (.ifCond .eq 6, 3) := by decide +kernel
theorem dX7_put_23 : decode cX7_put 23 = .ok (.iload 4, 2) := by decide +kernel
theorem dX7_put_25 : decode cX7_put 25 = .ok (.ireturn, 1) := by decide +kernel
theorem dX7_put_26 : decode cX7_put 26 = .ok (.aload_n 0, 1) := by decide +kernel
theorem dX7_put_27 : decode cX7_put 27 = .ok (.invokevirtual 77, 3) := by decide +kernel
theorem dX7_put_30 : decode cX7_put 30 = .ok (.istore 5, 2) := by decide +kernel
theorem dX7_put_32 : decode cX7_put 32 = .ok (.aload_n 3, 1) := by decide +kernel
theorem dX7_put_33 : decode cX7_put 33 = .ok (.iload 5, 2) := by decide +kernel
theorem dX7_put_35 : decode cX7_put 35 = .ok (.iload_n 2, 1) := by decide +kernel
theorem dX7_put_36 : decode cX7_put 36 = .ok (.aload_n 0, 1) := by decide +kernel
theorem dX7_put_37 : decode cX7_put 37 = .ok (.getfield 80, 3) := by decide +kernel
theorem dX7_put_40 : decode cX7_put 40 = .ok (.invokevirtual 83, 3) := by decide +kernel
theorem dX7_put_43 : decode cX7_put 43 = .ok (.iload 5, 2) := by decide +kernel
theorem dX7_put_45 : decode cX7_put 45 = .ok (.ireturn, 1) := by decide +kernel
set_option maxRecDepth 20000 in
theorem ggX7_prepare_X7_stageAt : GoodIn wsX7_prepare wsX7_stageAt := goodIn_r _ [7, 8, 9, 10, 11, 6, 12, 41, 42, 43, 44, 45, 46, 47] (by decide +kernel) (by decide +kernel)
set_option maxRecDepth 20000 in
theorem gX7_prepare_X7_stageAt : GoodIn wsX7_prepare (wsV RX7 40 RX7 yX7_stageAt wsX7_stageAt) := goodIn_app (goodIn_of _ (by decide +kernel)) ggX7_prepare_X7_stageAt
set_option maxRecDepth 20000 in
theorem ggX7_prepare_X7_within : GoodIn wsX7_prepare wsX7_within := goodIn_r _ [12] (by decide +kernel) (by decide +kernel)
set_option maxRecDepth 20000 in
theorem gX7_prepare_X7_within : GoodIn wsX7_prepare (va_wsS RX7 29 yX7_within wsX7_within) := goodIn_app (goodIn_of _ (by decide +kernel)) ggX7_prepare_X7_within
set_option maxRecDepth 20000 in
theorem ggX7_prepare_X3_freePlaces : GoodIn wsX7_prepare wsX3_freePlaces := goodIn_r _ [17, 18, 19, 20, 21, 22, 23, 24, 25, 26, 27, 28, 29, 30, 31, 32, 33, 34, 35, 36, 37, 38, 39, 40, 48, 49, 50, 51] (by decide +kernel) (by decide +kernel)
set_option maxRecDepth 20000 in
theorem gX7_prepare_X3_freePlaces : GoodIn wsX7_prepare (wsV RX7 91 RX3 yX3_freePlaces wsX3_freePlaces) := goodIn_app (goodIn_of _ (by decide +kernel)) ggX7_prepare_X3_freePlaces
theorem dX7_prepare_0 : decode cX7_prepare 0 = .ok (.aload_n 0, 1) := by decide +kernel
theorem dX7_prepare_1 : decode cX7_prepare 1 = .ok (.iload_n 1, 1) := by decide +kernel
theorem dX7_prepare_2 : decode cX7_prepare 2 = .ok (.invokevirtual 40, 3) := by decide +kernel
theorem dX7_prepare_5 : decode cX7_prepare 5 = .ok (.astore_n 3, 1) := by decide +kernel
theorem dX7_prepare_6 : decode cX7_prepare 6 = .ok (.aload_n 3, 1) := by decide +kernel
theorem dX7_prepare_7 : decode cX7_prepare 7 = .ok (.ifnull 13, 3) := by decide +kernel
theorem dX7_prepare_10 : decode cX7_prepare 10 = .ok (.iload_n 2, 1) := by decide +kernel
theorem dX7_prepare_11 : decode cX7_prepare 11 = .ok (.iconst 1, 1) := by decide +kernel
theorem dX7_prepare_12 : decode cX7_prepare 12 = .ok (.bipush 8, 2) := by decide +kernel
theorem dX7_prepare_14 : decode cX7_prepare 14 = .ok (.invokestatic 29, 3) := by decide +kernel
theorem dX7_prepare_17 : decode cX7_prepare 17 = .ok (.ifCond .ne 5, 3) := by decide +kernel
theorem dX7_prepare_20 : decode cX7_prepare 20 = .ok (.iconst (-1), 1) := by decide +kernel
theorem dX7_prepare_21 : decode cX7_prepare 21 = .ok (.ireturn, 1) := by decide +kernel
theorem dX7_prepare_22 : decode cX7_prepare 22 = .ok (.aload_n 3, 1) := by decide +kernel
theorem dX7_prepare_23 : decode cX7_prepare 23 = .ok (.getfield 87, 3) := by decide +kernel
theorem dX7_prepare_26 : decode cX7_prepare 26 = .ok (.ifCond .eq 6, 3) := by decide +kernel
theorem dX7_prepare_29 : decode cX7_prepare 29 = .ok (.bipush (-3), 2) := by decide +kernel
theorem dX7_prepare_31 : decode cX7_prepare 31 = .ok (.ireturn, 1) := by decide +kernel
theorem dX7_prepare_32 : decode cX7_prepare 32 = .ok (.iload_n 2, 1) := by decide +kernel
theorem dX7_prepare_33 : decode cX7_prepare 33 = .ok (.aload_n 3, 1) := by decide +kernel
theorem dX7_prepare_34 : decode cX7_prepare 34 = .ok (.invokevirtual 91, 3) := by decide +kernel
theorem dX7_prepare_37 : decode cX7_prepare 37 = .ok (.if_icmp .le 6, 3) := by decide +kernel
theorem dX7_prepare_40 : decode cX7_prepare 40 = .ok (.bipush (-2), 2) := by decide +kernel
theorem dX7_prepare_42 : decode cX7_prepare 42 = .ok (.ireturn, 1) := by decide +kernel
theorem dX7_prepare_43 : decode cX7_prepare 43 = .ok (.aload_n 3, 1) := by decide +kernel
theorem dX7_prepare_44 : decode cX7_prepare 44 = .ok (.dup, 1) := by decide +kernel
theorem dX7_prepare_45 : decode cX7_prepare 45 = .ok (.getfield 94, 3) := by decide +kernel
theorem dX7_prepare_48 : decode cX7_prepare 48 = .ok (.iload_n 2, 1) := by decide +kernel
theorem dX7_prepare_49 : decode cX7_prepare 49 = .ok (.iadd, 1) := by decide +kernel
theorem dX7_prepare_50 : decode cX7_prepare 50 = .ok (.putfield 94, 3) := by decide +kernel
theorem dX7_prepare_53 : decode cX7_prepare 53 = .ok (.iconst 1, 1) := by decide +kernel
theorem dX7_prepare_54 : decode cX7_prepare 54 = .ok (.ireturn, 1) := by decide +kernel
set_option maxRecDepth 20000 in
theorem ggX7_commit_X7_stageAt : GoodIn wsX7_commit wsX7_stageAt := goodIn_r _ [10, 11, 12, 13, 14, 9, 15, 48, 49, 50, 51, 52, 53, 54] (by decide +kernel) (by decide +kernel)
set_option maxRecDepth 20000 in
theorem gX7_commit_X7_stageAt : GoodIn wsX7_commit (wsV RX7 40 RX7 yX7_stageAt wsX7_stageAt) := goodIn_app (goodIn_of _ (by decide +kernel)) ggX7_commit_X7_stageAt
set_option maxRecDepth 20000 in
theorem ggX7_commit_X7_makeEvent : GoodIn wsX7_commit wsX7_makeEvent := goodIn_r _ [19, 3, 48, 49, 50, 51, 52, 53, 54] (by decide +kernel) (by decide +kernel)
set_option maxRecDepth 20000 in
theorem gX7_commit_X7_makeEvent : GoodIn wsX7_commit (wsV RX7 77 RX7 yX7_makeEvent wsX7_makeEvent) := goodIn_app (goodIn_of _ (by decide +kernel)) ggX7_commit_X7_makeEvent
set_option maxRecDepth 20000 in
theorem ggX7_commit_X1_append : GoodIn wsX7_commit wsX1_append := goodIn_r _ [24, 25, 26, 27, 28, 55, 56, 57, 58] (by decide +kernel) (by decide +kernel)
set_option maxRecDepth 20000 in
theorem gX7_commit_X1_append : GoodIn wsX7_commit (wsV RX7 104 RX1 yX1_append wsX1_append) := goodIn_app (goodIn_of _ (by decide +kernel)) ggX7_commit_X1_append
theorem dX7_commit_0 : decode cX7_commit 0 = .ok (.aload_n 0, 1) := by decide +kernel
theorem dX7_commit_1 : decode cX7_commit 1 = .ok (.iload_n 1, 1) := by decide +kernel
theorem dX7_commit_2 : decode cX7_commit 2 = .ok (.invokevirtual 40, 3) := by decide +kernel
theorem dX7_commit_5 : decode cX7_commit 5 = .ok (.astore_n 3, 1) := by decide +kernel
theorem dX7_commit_6 : decode cX7_commit 6 = .ok (.aload_n 3, 1) := by decide +kernel
theorem dX7_commit_7 : decode cX7_commit 7 = .ok (.ifnull 10, 3) := by decide +kernel
theorem dX7_commit_10 : decode cX7_commit 10 = .ok (.aload_n 3, 1) := by decide +kernel
theorem dX7_commit_11 : decode cX7_commit 11 = .ok (.getfield 94, 3) := by decide +kernel
theorem dX7_commit_14 : decode cX7_commit 14 = .ok (.ifCond .ne 5, 3) := by decide +kernel
theorem dX7_commit_17 : decode cX7_commit 17 = .ok (.iconst (-1), 1) := by decide +kernel
theorem dX7_commit_18 : decode cX7_commit 18 = .ok (.ireturn, 1) := by decide +kernel
theorem dX7_commit_19 : decode cX7_commit 19 = .ok (.aload_n 3, 1) := by decide +kernel
theorem dX7_commit_20 : decode cX7_commit 20 = .ok (.getfield 87, 3) := by decide +kernel
theorem dX7_commit_23 : decode cX7_commit 23 = .ok (.ifCond .eq 6, 3) := by decide +kernel
theorem dX7_commit_26 : decode cX7_commit 26 = .ok (.bipush (-3), 2) := by decide +kernel
theorem dX7_commit_28 : decode cX7_commit 28 = .ok (.ireturn, 1) := by decide +kernel
theorem dX7_commit_29 : decode cX7_commit 29 = .ok (.aload_n 0, 1) := by decide +kernel
theorem dX7_commit_30 : decode cX7_commit 30 = .ok (.getfield 97, 3) := by decide +kernel
theorem dX7_commit_33 : decode cX7_commit 33 = .ok (.istore 4, 2) := by decide +kernel
theorem dX7_commit_35 : decode cX7_commit 35 = .ok (.iconst 0, 1) := by decide +kernel
theorem dX7_commit_36 : decode cX7_commit 36 = .ok (.istore 5, 2) := by decide +kernel
theorem dX7_commit_38 : decode cX7_commit 38 = .ok (.iload 5, 2) := by decide +kernel
theorem dX7_commit_40 : decode cX7_commit 40 = .ok (.aload_n 3, 1) := by decide +kernel
theorem dX7_commit_41 : decode cX7_commit 41 = .ok (.getfield 94, 3) := by decide +kernel
theorem dX7_commit_44 : decode cX7_commit 44 = .ok (.if_icmp .ge 25, 3) := by decide +kernel
theorem dX7_commit_47 : decode cX7_commit 47 = .ok (.aload_n 3, 1) := by decide +kernel
theorem dX7_commit_48 : decode cX7_commit 48 = .ok (.getfield 100, 3) := by decide +kernel
theorem dX7_commit_51 : decode cX7_commit 51 = .ok (.aload_n 0, 1) := by decide +kernel
theorem dX7_commit_52 : decode cX7_commit 52 = .ok (.invokevirtual 77, 3) := by decide +kernel
theorem dX7_commit_55 : decode cX7_commit 55 = .ok (.iload_n 2, 1) := by decide +kernel
theorem dX7_commit_56 : decode cX7_commit 56 = .ok (.aload_n 0, 1) := by decide +kernel
theorem dX7_commit_57 : decode cX7_commit 57 = .ok (.getfield 80, 3) := by decide +kernel
theorem dX7_commit_60 : decode cX7_commit 60 = .ok (.invokevirtual 104, 3) := by decide +kernel
theorem dX7_commit_63 : decode cX7_commit 63 = .ok (.iinc 5 1, 3) := by decide +kernel
theorem dX7_commit_66 : decode cX7_commit 66 = .ok (.goto (-28), 3) := by decide +kernel
theorem dX7_commit_69 : decode cX7_commit 69 = .ok (.aload_n 3, 1) := by decide +kernel
theorem dX7_commit_70 : decode cX7_commit 70 = .ok (.iconst 0, 1) := by decide +kernel
theorem dX7_commit_71 : decode cX7_commit 71 = .ok (.putfield 94, 3) := by decide +kernel
theorem dX7_commit_74 : decode cX7_commit 74 = .ok (.iload 4, 2) := by decide +kernel
theorem dX7_commit_76 : decode cX7_commit 76 = .ok (.ireturn, 1) := by decide +kernel
set_option maxRecDepth 20000 in
theorem ggX7_abort_X7_stageAt : GoodIn wsX7_abort wsX7_stageAt := goodIn_r _ [6, 7, 8, 9, 10, 5, 11, 31, 32, 33, 34, 35, 36, 37] (by decide +kernel) (by decide +kernel)
set_option maxRecDepth 20000 in
theorem gX7_abort_X7_stageAt : GoodIn wsX7_abort (wsV RX7 40 RX7 yX7_stageAt wsX7_stageAt) := goodIn_app (goodIn_of _ (by decide +kernel)) ggX7_abort_X7_stageAt
theorem dX7_abort_0 : decode cX7_abort 0 = .ok (.aload_n 0, 1) := by decide +kernel
theorem dX7_abort_1 : decode cX7_abort 1 = .ok (.iload_n 1, 1) := by decide +kernel
theorem dX7_abort_2 : decode cX7_abort 2 = .ok (.invokevirtual 40, 3) := by decide +kernel
theorem dX7_abort_5 : decode cX7_abort 5 = .ok (.astore_n 2, 1) := by decide +kernel
theorem dX7_abort_6 : decode cX7_abort 6 = .ok (.aload_n 2, 1) := by decide +kernel
theorem dX7_abort_7 : decode cX7_abort 7 = .ok (.ifnonnull 5, 3) := by decide +kernel
theorem dX7_abort_10 : decode cX7_abort 10 = .ok (.iconst (-1), 1) := by decide +kernel
theorem dX7_abort_11 : decode cX7_abort 11 = .ok (.ireturn, 1) := by decide +kernel
theorem dX7_abort_12 : decode cX7_abort 12 = .ok (.aload_n 2, 1) := by decide +kernel
theorem dX7_abort_13 : decode cX7_abort 13 = .ok (.getfield 94, 3) := by decide +kernel
theorem dX7_abort_16 : decode cX7_abort 16 = .ok (.istore_n 3, 1) := by decide +kernel
theorem dX7_abort_17 : decode cX7_abort 17 = .ok (.aload_n 2, 1) := by decide +kernel
theorem dX7_abort_18 : decode cX7_abort 18 = .ok (.iconst 0, 1) := by decide +kernel
theorem dX7_abort_19 : decode cX7_abort 19 = .ok (.putfield 94, 3) := by decide +kernel
theorem dX7_abort_22 : decode cX7_abort 22 = .ok (.iload_n 3, 1) := by decide +kernel
theorem dX7_abort_23 : decode cX7_abort 23 = .ok (.ireturn, 1) := by decide +kernel
set_option maxRecDepth 20000 in
theorem ggX7_timer_X7_stageAt : GoodIn wsX7_timer wsX7_stageAt := goodIn_r _ [7, 8, 9, 10, 11, 6, 12, 24, 25, 26, 27, 28, 29, 30] (by decide +kernel) (by decide +kernel)
set_option maxRecDepth 20000 in
theorem gX7_timer_X7_stageAt : GoodIn wsX7_timer (wsV RX7 40 RX7 yX7_stageAt wsX7_stageAt) := goodIn_app (goodIn_of _ (by decide +kernel)) ggX7_timer_X7_stageAt
set_option maxRecDepth 20000 in
theorem ggX7_timer_X7_within : GoodIn wsX7_timer wsX7_within := goodIn_r _ [12] (by decide +kernel) (by decide +kernel)
set_option maxRecDepth 20000 in
theorem gX7_timer_X7_within : GoodIn wsX7_timer (va_wsS RX7 29 yX7_within wsX7_within) := goodIn_app (goodIn_of _ (by decide +kernel)) ggX7_timer_X7_within
set_option maxRecDepth 20000 in
theorem ggX7_timer_X4_append : GoodIn wsX7_timer wsX4_append := goodIn_r _ [17, 18, 19, 20, 21, 22, 23, 31, 32, 33, 34, 35, 36] (by decide +kernel) (by decide +kernel)
set_option maxRecDepth 20000 in
theorem gX7_timer_X4_append : GoodIn wsX7_timer (wsV RX7 109 RX4 yX4_append wsX4_append) := goodIn_app (goodIn_of _ (by decide +kernel)) ggX7_timer_X4_append
theorem dX7_timer_0 : decode cX7_timer 0 = .ok (.aload_n 0, 1) := by decide +kernel
theorem dX7_timer_1 : decode cX7_timer 1 = .ok (.iload_n 1, 1) := by decide +kernel
theorem dX7_timer_2 : decode cX7_timer 2 = .ok (.invokevirtual 40, 3) := by decide +kernel
theorem dX7_timer_5 : decode cX7_timer 5 = .ok (.astore 4, 2) := by decide +kernel
theorem dX7_timer_7 : decode cX7_timer 7 = .ok (.aload 4, 2) := by decide +kernel
theorem dX7_timer_9 : decode cX7_timer 9 = .ok (.ifnull 14, 3) := by decide +kernel
theorem dX7_timer_12 : decode cX7_timer 12 = .ok (.iload_n 3, 1) := by decide +kernel
theorem dX7_timer_13 : decode cX7_timer 13 = .ok (.iconst 1, 1) := by decide +kernel
theorem dX7_timer_14 : decode cX7_timer 14 = .ok (.sipush 1000, 3) := by decide +kernel
theorem dX7_timer_17 : decode cX7_timer 17 = .ok (.invokestatic 29, 3) := by decide +kernel
theorem dX7_timer_20 : decode cX7_timer 20 = .ok (.ifCond .ne 5, 3) := by decide +kernel
theorem dX7_timer_23 : decode cX7_timer 23 = .ok (.iconst (-1), 1) := by decide +kernel
theorem dX7_timer_24 : decode cX7_timer 24 = .ok (.ireturn, 1) := by decide +kernel
theorem dX7_timer_25 : decode cX7_timer 25 = .ok (.aload_n 0, 1) := by decide +kernel
theorem dX7_timer_26 : decode cX7_timer 26 = .ok (.getfield 18, 3) := by decide +kernel
theorem dX7_timer_29 : decode cX7_timer 29 = .ok (.aload 4, 2) := by decide +kernel
theorem dX7_timer_31 : decode cX7_timer 31 = .ok (.iload_n 2, 1) := by decide +kernel
theorem dX7_timer_32 : decode cX7_timer 32 = .ok (.aload_n 0, 1) := by decide +kernel
theorem dX7_timer_33 : decode cX7_timer 33 = .ok (.getfield 80, 3) := by decide +kernel
theorem dX7_timer_36 : decode cX7_timer 36 = .ok (.iload_n 3, 1) := by decide +kernel
theorem dX7_timer_37 : decode cX7_timer 37 = .ok (.iadd, 1) := by decide +kernel
theorem dX7_timer_38 : decode cX7_timer 38 = .ok (.invokevirtual 109, 3) := by decide +kernel
theorem dX7_timer_41 : decode cX7_timer 41 = .ok (.ireturn, 1) := by decide +kernel
set_option maxRecDepth 20000 in
theorem ggX7_cancel_X4_remove : GoodIn wsX7_cancel wsX4_remove := goodIn_r _ [6, 7, 8, 9, 10, 11, 5, 12, 13, 14, 15, 23, 24, 25, 26, 27, 28] (by decide +kernel) (by decide +kernel)
set_option maxRecDepth 20000 in
theorem gX7_cancel_X4_remove : GoodIn wsX7_cancel (wsV RX7 112 RX4 yX4_remove wsX4_remove) := goodIn_app (goodIn_of _ (by decide +kernel)) ggX7_cancel_X4_remove
theorem dX7_cancel_0 : decode cX7_cancel 0 = .ok (.aload_n 0, 1) := by decide +kernel
theorem dX7_cancel_1 : decode cX7_cancel 1 = .ok (.getfield 18, 3) := by decide +kernel
theorem dX7_cancel_4 : decode cX7_cancel 4 = .ok (.iload_n 1, 1) := by decide +kernel
theorem dX7_cancel_5 : decode cX7_cancel 5 = .ok (.invokevirtual 112, 3) := by decide +kernel
theorem dX7_cancel_8 : decode cX7_cancel 8 = .ok (.ifCond .eq 7, 3) := by decide +kernel
theorem dX7_cancel_11 : decode cX7_cancel 11 = .ok (.iconst 1, 1) := by decide +kernel
theorem dX7_cancel_12 : decode cX7_cancel 12 = .ok (.goto 4, 3) := by decide +kernel
theorem dX7_cancel_15 : decode cX7_cancel 15 = .ok (.iconst (-1), 1) := by decide +kernel
theorem dX7_cancel_16 : decode cX7_cancel 16 = .ok (.ireturn, 1) := by decide +kernel
set_option maxRecDepth 20000 in
theorem ggX7_close_X7_stageAt : GoodIn wsX7_close wsX7_stageAt := goodIn_r _ [6, 7, 8, 9, 10, 5, 11, 31, 32, 33, 34, 35, 36, 37] (by decide +kernel) (by decide +kernel)
set_option maxRecDepth 20000 in
theorem gX7_close_X7_stageAt : GoodIn wsX7_close (wsV RX7 40 RX7 yX7_stageAt wsX7_stageAt) := goodIn_app (goodIn_of _ (by decide +kernel)) ggX7_close_X7_stageAt
theorem dX7_close_0 : decode cX7_close 0 = .ok (.aload_n 0, 1) := by decide +kernel
theorem dX7_close_1 : decode cX7_close 1 = .ok (.iload_n 1, 1) := by decide +kernel
theorem dX7_close_2 : decode cX7_close 2 = .ok (.invokevirtual 40, 3) := by decide +kernel
theorem dX7_close_5 : decode cX7_close 5 = .ok (.astore_n 2, 1) := by decide +kernel
theorem dX7_close_6 : decode cX7_close 6 = .ok (.aload_n 2, 1) := by decide +kernel
theorem dX7_close_7 : decode cX7_close 7 = .ok (.ifnonnull 5, 3) := by decide +kernel
theorem dX7_close_10 : decode cX7_close 10 = .ok (.iconst (-1), 1) := by decide +kernel
theorem dX7_close_11 : decode cX7_close 11 = .ok (.ireturn, 1) := by decide +kernel
theorem dX7_close_12 : decode cX7_close 12 = .ok (.aload_n 2, 1) := by decide +kernel
theorem dX7_close_13 : decode cX7_close 13 = .ok (.getfield 87, 3) := by decide +kernel
theorem dX7_close_16 : decode cX7_close 16 = .ok (.ifCond .eq 6, 3) := by decide +kernel
theorem dX7_close_19 : decode cX7_close 19 = .ok (.bipush (-3), 2) := by decide +kernel
theorem dX7_close_21 : decode cX7_close 21 = .ok (.ireturn, 1) := by decide +kernel
theorem dX7_close_22 : decode cX7_close 22 = .ok (.aload_n 2, 1) := by decide +kernel
theorem dX7_close_23 : decode cX7_close 23 = .ok (.iconst 1, 1) := by decide +kernel
theorem dX7_close_24 : decode cX7_close 24 = .ok (.putfield 87, 3) := by decide +kernel
theorem dX7_close_27 : decode cX7_close 27 = .ok (.iconst 1, 1) := by decide +kernel
theorem dX7_close_28 : decode cX7_close 28 = .ok (.ireturn, 1) := by decide +kernel
set_option maxRecDepth 20000 in
theorem ggX7_tick_X7_within : GoodIn wsX7_tick wsX7_within := goodIn_r _ [5] (by decide +kernel) (by decide +kernel)
set_option maxRecDepth 20000 in
theorem gX7_tick_X7_within : GoodIn wsX7_tick (va_wsS RX7 29 yX7_within wsX7_within) := goodIn_app (goodIn_of _ (by decide +kernel)) ggX7_tick_X7_within
set_option maxRecDepth 20000 in
theorem ggX7_tick_X7_passTick : GoodIn wsX7_tick wsX7_passTick := goodIn_r _ [9, 1, 10, 11, 12, 13, 14, 15, 16, 17, 18, 19, 20, 21, 22, 23, 24, 25, 26, 27, 28, 4, 29, 30, 31, 32, 33, 34, 35, 36, 37, 38, 39, 40, 41, 42, 43, 44, 45, 46, 47, 48, 49, 50, 51, 52, 53, 54, 55, 56, 57, 58, 59, 60, 61, 62, 63, 64, 65, 66, 67, 68, 69, 70, 71, 72, 73, 74, 75, 76, 77, 78, 79, 80, 81, 82, 83, 84, 85, 86, 87, 88, 89, 90, 91, 92, 93, 94, 95, 96, 97, 98, 99, 100, 101, 102, 103, 104, 105, 106, 107, 108, 109, 110, 111, 112, 113, 114, 115, 116, 117, 118, 119, 120, 121, 122, 123, 124, 125, 126, 127, 128, 129, 130, 131, 132, 133, 134, 135, 136, 137, 138, 139, 140, 141, 142, 143, 144, 145, 146, 147, 148, 149, 150, 151, 152, 153, 154, 155, 156, 157, 158, 159, 160, 161, 162, 163, 164, 165, 166, 167, 168, 169, 170, 171, 172, 173, 174, 175, 176, 177, 178, 179, 180, 181, 182, 183, 184, 185, 186, 187, 188, 189, 190, 191, 192, 193, 194, 195, 196, 197, 198, 199, 200, 201, 202, 203, 204, 205, 206, 207, 208, 209, 210, 211, 212, 213, 214, 215, 216, 217, 218, 219, 220, 221, 222, 223, 224, 225, 226, 227, 228, 229, 230, 231, 232, 233, 234, 235, 236, 237, 238, 239, 240, 241, 242, 243, 244, 245, 246, 247, 248, 249, 250, 251, 252, 253, 254, 255, 256, 257, 258, 259, 260, 261, 262, 263, 264, 265, 266, 267, 268, 269, 270, 271, 272, 273, 274, 275, 276, 277, 278, 279, 280, 281, 282, 283, 284, 285, 286] (by decide +kernel) (by decide +kernel)
set_option maxRecDepth 20000 in
theorem gX7_tick_X7_passTick : GoodIn wsX7_tick (wsV RX7 115 RX7 yX7_passTick wsX7_passTick) := goodIn_app (goodIn_of _ (by decide +kernel)) ggX7_tick_X7_passTick
theorem dX7_tick_0 : decode cX7_tick 0 = .ok (.iload_n 1, 1) := by decide +kernel
theorem dX7_tick_1 : decode cX7_tick 1 = .ok (.iconst 1, 1) := by decide +kernel
theorem dX7_tick_2 : decode cX7_tick 2 = .ok (.bipush 50, 2) := by decide +kernel
theorem dX7_tick_4 : decode cX7_tick 4 = .ok (.invokestatic 29, 3) := by decide +kernel
theorem dX7_tick_7 : decode cX7_tick 7 = .ok (.ifCond .ne 5, 3) := by decide +kernel
theorem dX7_tick_10 : decode cX7_tick 10 = .ok (.iconst (-1), 1) := by decide +kernel
theorem dX7_tick_11 : decode cX7_tick 11 = .ok (.ireturn, 1) := by decide +kernel
theorem dX7_tick_12 : decode cX7_tick 12 = .ok (.aload_n 0, 1) := by decide +kernel
theorem dX7_tick_13 : decode cX7_tick 13 = .ok (.getfield 80, 3) := by decide +kernel
theorem dX7_tick_16 : decode cX7_tick 16 = .ok (.iload_n 1, 1) := by decide +kernel
theorem dX7_tick_17 : decode cX7_tick 17 = .ok (.iadd, 1) := by decide +kernel
theorem dX7_tick_18 : decode cX7_tick 18 = .ok (.sipush 400, 3) := by decide +kernel
theorem dX7_tick_21 : decode cX7_tick 21 = .ok (.if_icmp .le 6, 3) := by decide +kernel
theorem dX7_tick_24 : decode cX7_tick 24 = .ok (.bipush (-2), 2) := by decide +kernel
theorem dX7_tick_26 : decode cX7_tick 26 = .ok (.ireturn, 1) := by decide +kernel
theorem dX7_tick_27 : decode cX7_tick 27 = .ok (.iconst 0, 1) := by decide +kernel
theorem dX7_tick_28 : decode cX7_tick 28 = .ok (.istore_n 2, 1) := by decide +kernel
theorem dX7_tick_29 : decode cX7_tick 29 = .ok (.iload_n 2, 1) := by decide +kernel
theorem dX7_tick_30 : decode cX7_tick 30 = .ok (.iload_n 1, 1) := by decide +kernel
theorem dX7_tick_31 : decode cX7_tick 31 = .ok (.if_icmp .ge 13, 3) := by decide +kernel
theorem dX7_tick_34 : decode cX7_tick 34 = .ok (.aload_n 0, 1) := by decide +kernel
theorem dX7_tick_35 : decode cX7_tick 35 = .ok (.invokevirtual 115, 3) := by decide +kernel
theorem dX7_tick_38 : decode cX7_tick 38 = .ok (.iinc 2 1, 3) := by decide +kernel
theorem dX7_tick_41 : decode cX7_tick 41 = .ok (.goto (-12), 3) := by decide +kernel
theorem dX7_tick_44 : decode cX7_tick 44 = .ok (.aload_n 0, 1) := by decide +kernel
theorem dX7_tick_45 : decode cX7_tick 45 = .ok (.getfield 80, 3) := by decide +kernel
theorem dX7_tick_48 : decode cX7_tick 48 = .ok (.ireturn, 1) := by decide +kernel
set_option maxRecDepth 20000 in
theorem ggX7_told_X7_stageAt : GoodIn wsX7_told wsX7_stageAt := goodIn_r _ [5, 6, 7, 8, 9, 4, 10, 35, 36, 37, 38, 39, 40, 41] (by decide +kernel) (by decide +kernel)
set_option maxRecDepth 20000 in
theorem gX7_told_X7_stageAt : GoodIn wsX7_told (wsV RX7 40 RX7 yX7_stageAt wsX7_stageAt) := goodIn_app (goodIn_of _ (by decide +kernel)) ggX7_told_X7_stageAt
set_option maxRecDepth 20000 in
theorem ggX7_told_X3_figure : GoodIn wsX7_told wsX3_figure := goodIn_r _ [15, 16, 17, 18, 19, 20, 21, 22, 23, 24, 25, 26, 27, 28, 29, 30, 31, 32, 33, 34, 42, 43, 44, 45, 46, 47, 48, 49, 50, 51, 52, 53, 54, 55, 56, 57, 58, 59, 60, 61, 62, 63, 64, 65, 66, 67] (by decide +kernel) (by decide +kernel)
set_option maxRecDepth 20000 in
theorem gX7_told_X3_figure : GoodIn wsX7_told (wsV RX7 118 RX3 yX3_figure wsX3_figure) := goodIn_app (goodIn_of _ (by decide +kernel)) ggX7_told_X3_figure
theorem dX7_told_0 : decode cX7_told 0 = .ok (.aload_n 0, 1) := by decide +kernel
theorem dX7_told_1 : decode cX7_told 1 = .ok (.iload_n 1, 1) := by decide +kernel
theorem dX7_told_2 : decode cX7_told 2 = .ok (.invokevirtual 40, 3) := by decide +kernel
theorem dX7_told_5 : decode cX7_told 5 = .ok (.astore_n 3, 1) := by decide +kernel
theorem dX7_told_6 : decode cX7_told 6 = .ok (.aload_n 3, 1) := by decide +kernel
theorem dX7_told_7 : decode cX7_told 7 = .ok (.ifnonnull 7, 3) := by decide +kernel
theorem dX7_told_10 : decode cX7_told 10 = .ok (.iconst (-1), 1) := by decide +kernel
theorem dX7_told_11 : decode cX7_told 11 = .ok (.goto 8, 3) := by decide +kernel
theorem dX7_told_14 : decode cX7_told 14 = .ok (.aload_n 3, 1) := by decide +kernel
theorem dX7_told_15 : decode cX7_told 15 = .ok (.iload_n 2, 1) := by decide +kernel
theorem dX7_told_16 : decode cX7_told 16 = .ok (.invokevirtual 118, 3) := by decide +kernel
theorem dX7_told_19 : decode cX7_told 19 = .ok (.ireturn, 1) := by decide +kernel
set_option maxRecDepth 20000 in
theorem ggX7_queued_X7_stageAt : GoodIn wsX7_queued wsX7_stageAt := goodIn_r _ [8, 9, 10, 11, 12, 7, 13, 37, 38, 39, 40, 41, 42, 43] (by decide +kernel) (by decide +kernel)
set_option maxRecDepth 20000 in
theorem gX7_queued_X7_stageAt : GoodIn wsX7_queued (wsV RX7 40 RX7 yX7_stageAt wsX7_stageAt) := goodIn_app (goodIn_of _ (by decide +kernel)) ggX7_queued_X7_stageAt
set_option maxRecDepth 20000 in
theorem ggX7_queued_X7_within : GoodIn wsX7_queued wsX7_within := goodIn_r _ [13] (by decide +kernel) (by decide +kernel)
set_option maxRecDepth 20000 in
theorem gX7_queued_X7_within : GoodIn wsX7_queued (va_wsS RX7 29 yX7_within wsX7_within) := goodIn_app (goodIn_of _ (by decide +kernel)) ggX7_queued_X7_within
theorem dX7_queued_0 : decode cX7_queued 0 = .ok (.aload_n 0, 1) := by decide +kernel
theorem dX7_queued_1 : decode cX7_queued 1 = .ok (.iload_n 1, 1) := by decide +kernel
theorem dX7_queued_2 : decode cX7_queued 2 = .ok (.invokevirtual 40, 3) := by decide +kernel
theorem dX7_queued_5 : decode cX7_queued 5 = .ok (.astore_n 3, 1) := by decide +kernel
theorem dX7_queued_6 : decode cX7_queued 6 = .ok (.aload_n 3, 1) := by decide +kernel
theorem dX7_queued_7 : decode cX7_queued 7 = .ok (.ifnull 20, 3) := by decide +kernel
theorem dX7_queued_10 : decode cX7_queued 10 = .ok (.iload_n 2, 1) := by decide +kernel
theorem dX7_queued_11 : decode cX7_queued 11 = .ok (.iconst 0, 1) := by decide +kernel
theorem dX7_queued_12 : decode cX7_queued 12 = .ok (.aload_n 3, 1) := by decide +kernel
theorem dX7_queued_13 : decode cX7_queued 13 = .ok (.getfield 100, 3) := by decide +kernel
theorem dX7_queued_16 : decode cX7_queued 16 = .ok (.getfield 122, 3) := by decide +kernel
theorem dX7_queued_19 : decode cX7_queued 19 = .ok (.iconst 1, 1) := by decide +kernel
theorem dX7_queued_20 : decode cX7_queued 20 = .ok (.isub, 1) := by decide +kernel
theorem dX7_queued_21 : decode cX7_queued 21 = .ok (.invokestatic 29, 3) := by decide +kernel
theorem dX7_queued_24 : decode cX7_queued 24 = .ok (.ifCond .ne 5, 3) := by decide +kernel
theorem dX7_queued_27 : decode cX7_queued 27 = .ok (.iconst (-1), 1) := by decide +kernel
theorem dX7_queued_28 : decode cX7_queued 28 = .ok (.ireturn, 1) := by decide +kernel
theorem dX7_queued_29 : decode cX7_queued 29 = .ok (.aload_n 3, 1) := by decide +kernel
theorem dX7_queued_30 : decode cX7_queued 30 = .ok (.getfield 100, 3) := by decide +kernel
theorem dX7_queued_33 : decode cX7_queued 33 = .ok (.getfield 125, 3) := by decide +kernel
theorem dX7_queued_36 : decode cX7_queued 36 = .ok (.iload_n 2, 1) := by decide +kernel
theorem dX7_queued_37 : decode cX7_queued 37 = .ok (.iaload, 1) := by decide +kernel
theorem dX7_queued_38 : decode cX7_queued 38 = .ok (.ireturn, 1) := by decide +kernel
set_option maxRecDepth 20000 in
theorem ggX7_worker_X7_stageAt : GoodIn wsX7_worker wsX7_stageAt := goodIn_r _ [7, 8, 9, 10, 11, 6, 12, 43, 44, 45, 46, 47, 48, 49] (by decide +kernel) (by decide +kernel)
set_option maxRecDepth 20000 in
theorem gX7_worker_X7_stageAt : GoodIn wsX7_worker (wsV RX7 40 RX7 yX7_stageAt wsX7_stageAt) := goodIn_app (goodIn_of _ (by decide +kernel)) ggX7_worker_X7_stageAt
set_option maxRecDepth 20000 in
theorem ggX7_worker_X7_within : GoodIn wsX7_worker wsX7_within := goodIn_r _ [12] (by decide +kernel) (by decide +kernel)
set_option maxRecDepth 20000 in
theorem gX7_worker_X7_within : GoodIn wsX7_worker (va_wsS RX7 29 yX7_within wsX7_within) := goodIn_app (goodIn_of _ (by decide +kernel)) ggX7_worker_X7_within
set_option maxRecDepth 20000 in
theorem ggX7_worker_X6_figure : GoodIn wsX7_worker wsX6_figure := goodIn_r _ [17, 18, 19, 20, 21, 22, 23, 50, 51, 52, 53, 54, 55, 56, 57, 58, 59, 60, 61, 62, 63, 64] (by decide +kernel) (by decide +kernel)
set_option maxRecDepth 20000 in
theorem gX7_worker_X6_figure : GoodIn wsX7_worker (wsV RX7 136 RX6 yX6_figure wsX6_figure) := goodIn_app (goodIn_of _ (by decide +kernel)) ggX7_worker_X6_figure
theorem dX7_worker_0 : decode cX7_worker 0 = .ok (.aload_n 0, 1) := by decide +kernel
theorem dX7_worker_1 : decode cX7_worker 1 = .ok (.iload_n 1, 1) := by decide +kernel
theorem dX7_worker_2 : decode cX7_worker 2 = .ok (.invokevirtual 40, 3) := by decide +kernel
theorem dX7_worker_5 : decode cX7_worker 5 = .ok (.astore 4, 2) := by decide +kernel
theorem dX7_worker_7 : decode cX7_worker 7 = .ok (.aload 4, 2) := by decide +kernel
theorem dX7_worker_9 : decode cX7_worker 9 = .ok (.ifnull 18, 3) := by decide +kernel
theorem dX7_worker_12 : decode cX7_worker 12 = .ok (.iload_n 2, 1) := by decide +kernel
theorem dX7_worker_13 : decode cX7_worker 13 = .ok (.iconst 0, 1) := by decide +kernel
theorem dX7_worker_14 : decode cX7_worker 14 = .ok (.aload 4, 2) := by decide +kernel
theorem dX7_worker_16 : decode cX7_worker 16 = .ok (.getfield 129, 3) := by decide +kernel
theorem dX7_worker_19 : decode cX7_worker 19 = .ok (.iconst 1, 1) := by decide +kernel
theorem dX7_worker_20 : decode cX7_worker 20 = .ok (.isub, 1) := by decide +kernel
theorem dX7_worker_21 : decode cX7_worker 21 = .ok (.invokestatic 29, 3) := by decide +kernel
theorem dX7_worker_24 : decode cX7_worker 24 = .ok (.ifCond .ne 5, 3) := by decide +kernel
theorem dX7_worker_27 : decode cX7_worker 27 = .ok (.iconst (-1), 1) := by decide +kernel
theorem dX7_worker_28 : decode cX7_worker 28 = .ok (.ireturn, 1) := by decide +kernel
theorem dX7_worker_29 : decode cX7_worker 29 = .ok (.aload 4, 2) := by decide +kernel
theorem dX7_worker_31 : decode cX7_worker 31 = .ok (.getfield 132, 3) := by decide +kernel
theorem dX7_worker_34 : decode cX7_worker 34 = .ok (.iload_n 2, 1) := by decide +kernel
theorem dX7_worker_35 : decode cX7_worker 35 = .ok (.aaload, 1) := by decide +kernel
theorem dX7_worker_36 : decode cX7_worker 36 = .ok (.iload_n 3, 1) := by decide +kernel
theorem dX7_worker_37 : decode cX7_worker 37 = .ok (.invokevirtual 136, 3) := by decide +kernel
theorem dX7_worker_40 : decode cX7_worker 40 = .ok (.ireturn, 1) := by decide +kernel
set_option maxRecDepth 20000 in
theorem ggX7_done_X7_within : GoodIn wsX7_done wsX7_within := goodIn_r _ [7] (by decide +kernel) (by decide +kernel)
set_option maxRecDepth 20000 in
theorem gX7_done_X7_within : GoodIn wsX7_done (va_wsS RX7 29 yX7_within wsX7_within) := goodIn_app (goodIn_of _ (by decide +kernel)) ggX7_done_X7_within
theorem dX7_done_0 : decode cX7_done 0 = .ok (.iload_n 1, 1) := by decide +kernel
theorem dX7_done_1 : decode cX7_done 1 = .ok (.iconst 0, 1) := by decide +kernel
theorem dX7_done_2 : decode cX7_done 2 = .ok (.aload_n 0, 1) := by decide +kernel
theorem dX7_done_3 : decode cX7_done 3 = .ok (.getfield 25, 3) := by decide +kernel
theorem dX7_done_6 : decode cX7_done 6 = .ok (.getfield 139, 3) := by decide +kernel
theorem dX7_done_9 : decode cX7_done 9 = .ok (.iconst 1, 1) := by decide +kernel
theorem dX7_done_10 : decode cX7_done 10 = .ok (.isub, 1) := by decide +kernel
theorem dX7_done_11 : decode cX7_done 11 = .ok (.invokestatic 29, 3) := by decide +kernel
theorem dX7_done_14 : decode cX7_done 14 = .ok (.ifCond .eq 15, 3) := by decide +kernel
theorem dX7_done_17 : decode cX7_done 17 = .ok (.aload_n 0, 1) := by decide +kernel
theorem dX7_done_18 : decode cX7_done 18 = .ok (.getfield 25, 3) := by decide +kernel
theorem dX7_done_21 : decode cX7_done 21 = .ok (.getfield 140, 3) := by decide +kernel
theorem dX7_done_24 : decode cX7_done 24 = .ok (.iload_n 1, 1) := by decide +kernel
theorem dX7_done_25 : decode cX7_done 25 = .ok (.iaload, 1) := by decide +kernel
theorem dX7_done_26 : decode cX7_done 26 = .ok (.goto 4, 3) := by decide +kernel
theorem dX7_done_29 : decode cX7_done 29 = .ok (.iconst (-1), 1) := by decide +kernel
theorem dX7_done_30 : decode cX7_done 30 = .ok (.ireturn, 1) := by decide +kernel
set_option maxRecDepth 20000 in
theorem ggX7_value_X7_within : GoodIn wsX7_value wsX7_within := goodIn_r _ [7] (by decide +kernel) (by decide +kernel)
set_option maxRecDepth 20000 in
theorem gX7_value_X7_within : GoodIn wsX7_value (va_wsS RX7 29 yX7_within wsX7_within) := goodIn_app (goodIn_of _ (by decide +kernel)) ggX7_value_X7_within
theorem dX7_value_0 : decode cX7_value 0 = .ok (.iload_n 1, 1) := by decide +kernel
theorem dX7_value_1 : decode cX7_value 1 = .ok (.iconst 0, 1) := by decide +kernel
theorem dX7_value_2 : decode cX7_value 2 = .ok (.aload_n 0, 1) := by decide +kernel
theorem dX7_value_3 : decode cX7_value 3 = .ok (.getfield 25, 3) := by decide +kernel
theorem dX7_value_6 : decode cX7_value 6 = .ok (.getfield 139, 3) := by decide +kernel
theorem dX7_value_9 : decode cX7_value 9 = .ok (.iconst 1, 1) := by decide +kernel
theorem dX7_value_10 : decode cX7_value 10 = .ok (.isub, 1) := by decide +kernel
theorem dX7_value_11 : decode cX7_value 11 = .ok (.invokestatic 29, 3) := by decide +kernel
theorem dX7_value_14 : decode cX7_value 14 = .ok (.ifCond .eq 15, 3) := by decide +kernel
theorem dX7_value_17 : decode cX7_value 17 = .ok (.aload_n 0, 1) := by decide +kernel
theorem dX7_value_18 : decode cX7_value 18 = .ok (.getfield 25, 3) := by decide +kernel
theorem dX7_value_21 : decode cX7_value 21 = .ok (.getfield 141, 3) := by decide +kernel
theorem dX7_value_24 : decode cX7_value 24 = .ok (.iload_n 1, 1) := by decide +kernel
theorem dX7_value_25 : decode cX7_value 25 = .ok (.iaload, 1) := by decide +kernel
theorem dX7_value_26 : decode cX7_value 26 = .ok (.goto 4, 3) := by decide +kernel
theorem dX7_value_29 : decode cX7_value 29 = .ok (.iconst (-1), 1) := by decide +kernel
theorem dX7_value_30 : decode cX7_value 30 = .ok (.ireturn, 1) := by decide +kernel
theorem dX7_events_0 : decode cX7_events 0 = .ok (.aload_n 0, 1) := by decide +kernel
theorem dX7_events_1 : decode cX7_events 1 = .ok (.getfield 97, 3) := by decide +kernel
theorem dX7_events_4 : decode cX7_events 4 = .ok (.ireturn, 1) := by decide +kernel
theorem dX7_ended_0 : decode cX7_ended 0 = .ok (.aload_n 0, 1) := by decide +kernel
theorem dX7_ended_1 : decode cX7_ended 1 = .ok (.getfield 25, 3) := by decide +kernel
theorem dX7_ended_4 : decode cX7_ended 4 = .ok (.getfield 139, 3) := by decide +kernel
theorem dX7_ended_7 : decode cX7_ended 7 = .ok (.ireturn, 1) := by decide +kernel
theorem dX7_lost_0 : decode cX7_lost 0 = .ok (.aload_n 0, 1) := by decide +kernel
theorem dX7_lost_1 : decode cX7_lost 1 = .ok (.getfield 144, 3) := by decide +kernel
theorem dX7_lost_4 : decode cX7_lost 4 = .ok (.ireturn, 1) := by decide +kernel
theorem dX7_clock_0 : decode cX7_clock 0 = .ok (.aload_n 0, 1) := by decide +kernel
theorem dX7_clock_1 : decode cX7_clock 1 = .ok (.getfield 80, 3) := by decide +kernel
theorem dX7_clock_4 : decode cX7_clock 4 = .ok (.ireturn, 1) := by decide +kernel
theorem dX7_within_0 : decode cX7_within 0 = .ok (.iload_n 0, 1) := by decide +kernel
theorem dX7_within_1 : decode cX7_within 1 = .ok (.iload_n 1, 1) := by decide +kernel
theorem dX7_within_2 : decode cX7_within 2 = .ok (.if_icmp .lt 12, 3) := by decide +kernel
theorem dX7_within_5 : decode cX7_within 5 = .ok (.iload_n 0, 1) := by decide +kernel
theorem dX7_within_6 : decode cX7_within 6 = .ok (.iload_n 2, 1) := by decide +kernel
theorem dX7_within_7 : decode cX7_within 7 = .ok (.if_icmp .gt 7, 3) := by decide +kernel
theorem dX7_within_10 : decode cX7_within 10 = .ok (.iconst 1, 1) := by decide +kernel
theorem dX7_within_11 : decode cX7_within 11 = .ok (.goto 4, 3) := by decide +kernel
theorem dX7_within_14 : decode cX7_within 14 = .ok (.iconst 0, 1) := by decide +kernel
theorem dX7_within_15 : decode cX7_within 15 = .ok (.ireturn, 1) := by decide +kernel
set_option maxRecDepth 20000 in
theorem ggX7_stageAt_X7_within : GoodIn wsX7_stageAt wsX7_within := goodIn_r _ [6] (by decide +kernel) (by decide +kernel)
set_option maxRecDepth 20000 in
theorem gX7_stageAt_X7_within : GoodIn wsX7_stageAt (va_wsS RX7 29 yX7_within wsX7_within) := goodIn_app (goodIn_of _ (by decide +kernel)) ggX7_stageAt_X7_within
theorem dX7_stageAt_0 : decode cX7_stageAt 0 = .ok (.iload_n 1, 1) := by decide +kernel
theorem dX7_stageAt_1 : decode cX7_stageAt 1 = .ok (.iconst 0, 1) := by decide +kernel
theorem dX7_stageAt_2 : decode cX7_stageAt 2 = .ok (.aload_n 0, 1) := by decide +kernel
theorem dX7_stageAt_3 : decode cX7_stageAt 3 = .ok (.getfield 33, 3) := by decide +kernel
theorem dX7_stageAt_6 : decode cX7_stageAt 6 = .ok (.iconst 1, 1) := by decide +kernel
theorem dX7_stageAt_7 : decode cX7_stageAt 7 = .ok (.isub, 1) := by decide +kernel
theorem dX7_stageAt_8 : decode cX7_stageAt 8 = .ok (.invokestatic 29, 3) := by decide +kernel
theorem dX7_stageAt_11 : decode cX7_stageAt 11 = .ok (.ifCond .eq 12, 3) := by decide +kernel
theorem dX7_stageAt_14 : decode cX7_stageAt 14 = .ok (.aload_n 0, 1) := by decide +kernel
theorem dX7_stageAt_15 : decode cX7_stageAt 15 = .ok (.getfield 11, 3) := by decide +kernel
theorem dX7_stageAt_18 : decode cX7_stageAt 18 = .ok (.iload_n 1, 1) := by decide +kernel
theorem dX7_stageAt_19 : decode cX7_stageAt 19 = .ok (.aaload, 1) := by decide +kernel
theorem dX7_stageAt_20 : decode cX7_stageAt 20 = .ok (.goto 4, 3) := by decide +kernel
theorem dX7_stageAt_23 : decode cX7_stageAt 23 = .ok (.aconst_null, 1) := by decide +kernel
theorem dX7_stageAt_24 : decode cX7_stageAt 24 = .ok (.areturn, 1) := by decide +kernel
set_option maxRecDepth 20000 in
theorem ggX7_isTarget_X7_within : GoodIn wsX7_isTarget wsX7_within := goodIn_r _ [5] (by decide +kernel) (by decide +kernel)
set_option maxRecDepth 20000 in
theorem gX7_isTarget_X7_within : GoodIn wsX7_isTarget (va_wsS RX7 29 yX7_within wsX7_within) := goodIn_app (goodIn_of _ (by decide +kernel)) ggX7_isTarget_X7_within
theorem dX7_isTarget_0 : decode cX7_isTarget 0 = .ok (.iload_n 1, 1) := by decide +kernel
theorem dX7_isTarget_1 : decode cX7_isTarget 1 = .ok (.iconst (-1), 1) := by decide +kernel
theorem dX7_isTarget_2 : decode cX7_isTarget 2 = .ok (.aload_n 0, 1) := by decide +kernel
theorem dX7_isTarget_3 : decode cX7_isTarget 3 = .ok (.getfield 33, 3) := by decide +kernel
theorem dX7_isTarget_6 : decode cX7_isTarget 6 = .ok (.iconst 1, 1) := by decide +kernel
theorem dX7_isTarget_7 : decode cX7_isTarget 7 = .ok (.isub, 1) := by decide +kernel
theorem dX7_isTarget_8 : decode cX7_isTarget 8 = .ok (.invokestatic 29, 3) := by decide +kernel
theorem dX7_isTarget_11 : decode cX7_isTarget 11 = .ok (.ireturn, 1) := by decide +kernel
theorem dX7_makeEvent_0 : decode cX7_makeEvent 0 = .ok (.aload_n 0, 1) := by decide +kernel
theorem dX7_makeEvent_1 : decode cX7_makeEvent 1 = .ok (.dup, 1) := by decide +kernel
theorem dX7_makeEvent_2 : decode cX7_makeEvent 2 = .ok (.getfield 97, 3) := by decide +kernel
theorem dX7_makeEvent_5 : decode cX7_makeEvent 5 = .ok (.iconst 1, 1) := by decide +kernel
theorem dX7_makeEvent_6 : decode cX7_makeEvent 6 = .ok (.iadd, 1) := by decide +kernel
theorem dX7_makeEvent_7 : decode cX7_makeEvent 7 = .ok (.putfield 97, 3) := by decide +kernel
theorem dX7_makeEvent_10 : decode cX7_makeEvent 10 = .ok (.aload_n 0, 1) := by decide +kernel
theorem dX7_makeEvent_11 : decode cX7_makeEvent 11 = .ok (.getfield 97, 3) := by decide +kernel
theorem dX7_makeEvent_14 : decode cX7_makeEvent 14 = .ok (.iconst 1, 1) := by decide +kernel
theorem dX7_makeEvent_15 : decode cX7_makeEvent 15 = .ok (.isub, 1) := by decide +kernel
theorem dX7_makeEvent_16 : decode cX7_makeEvent 16 = .ok (.ireturn, 1) := by decide +kernel
set_option maxRecDepth 20000 in
theorem ggX7_passTick_X3_growTokens : GoodIn wsX7_passTick wsX3_growTokens := goodIn_r _ [10, 11, 12, 13, 14, 15, 16, 17, 234, 235, 236, 237, 238, 239, 240, 241, 242, 243, 244, 245, 246, 247, 248, 249, 250, 251, 252] (by decide +kernel) (by decide +kernel)
set_option maxRecDepth 20000 in
theorem gX7_passTick_X3_growTokens : GoodIn wsX7_passTick (wsV RX7 147 RX3 yX3_growTokens wsX3_growTokens) := goodIn_app (goodIn_of _ (by decide +kernel)) ggX7_passTick_X3_growTokens
set_option maxRecDepth 20000 in
theorem ggX7_passTick_X7_fireTimers : GoodIn wsX7_passTick wsX7_fireTimers := goodIn_r _ [22, 23, 24, 25, 1, 26, 27, 28, 29, 30, 21, 31, 32, 33, 34, 35, 36, 37, 38, 39, 40, 9, 41, 42, 11, 43, 44, 45, 46, 47, 48, 49, 50, 51, 52, 53, 54, 55, 56, 57, 58, 59, 60, 61, 62, 63, 64, 65, 66, 67, 68, 69, 70, 71, 72, 73, 227, 228, 229, 230, 231, 232, 233, 253, 254, 255, 256, 257, 258, 234, 235, 236, 237, 238, 239, 240, 241, 242, 243, 244, 245, 246, 247, 248, 249, 250, 251, 252, 259, 260, 261, 262] (by decide +kernel) (by decide +kernel)
set_option maxRecDepth 20000 in
theorem gX7_passTick_X7_fireTimers : GoodIn wsX7_passTick (wsV RX7 150 RX7 yX7_fireTimers wsX7_fireTimers) := goodIn_app (goodIn_of _ (by decide +kernel)) ggX7_passTick_X7_fireTimers
set_option maxRecDepth 20000 in
theorem ggX7_passTick_X7_letWork : GoodIn wsX7_passTick wsX7_letWork := goodIn_r _ [77, 78, 79, 80, 81, 82, 83, 21, 84, 85, 86, 87, 88, 89, 90, 9, 91, 92, 93, 50, 94, 95, 96, 97, 98, 99, 100, 101, 102, 103, 104, 105, 106, 107, 108, 109, 110, 111, 112, 113, 114, 115, 116, 117, 118, 119, 120, 121, 122, 123, 124, 125, 33, 34, 35, 36, 37, 38, 39, 40, 41, 42, 11, 43, 44, 45, 46, 47, 48, 49, 51, 52, 53, 54, 55, 56, 57, 58, 59, 60, 61, 62, 63, 64, 126, 127, 128, 129, 130, 131, 132, 133, 1, 134, 135, 136, 137, 138, 139, 140, 141, 142, 143, 144, 145, 146, 147, 148, 149, 150, 151, 152, 153, 154, 155, 156, 157, 158, 159, 160, 161, 162, 163, 164, 165, 166, 167, 168, 15, 16, 17, 169, 170, 171, 172, 173, 174, 175, 176, 177, 178, 179, 180, 181, 182, 183, 184, 185, 186, 187, 188, 189, 190, 191, 192, 263, 264, 265, 266, 267, 259, 260, 261, 262, 234, 235, 236, 237, 238, 239, 240, 241, 242, 243, 244, 245, 246, 247, 248, 249, 250, 251, 252, 268, 269, 270, 271, 272, 273, 227, 228, 229, 230, 231, 232, 233, 274, 275, 276, 277, 278, 279] (by decide +kernel) (by decide +kernel)
set_option maxRecDepth 20000 in
theorem gX7_passTick_X7_letWork : GoodIn wsX7_passTick (wsV RX7 153 RX7 yX7_letWork wsX7_letWork) := goodIn_app (goodIn_of _ (by decide +kernel)) ggX7_passTick_X7_letWork
set_option maxRecDepth 20000 in
theorem ggX7_passTick_X3_control : GoodIn wsX7_passTick wsX3_control := goodIn_r _ [196, 92, 197, 198, 199, 200, 201, 202, 9, 203, 49, 50, 48, 204, 205, 206, 207, 208, 209, 210, 93, 211, 212, 213, 214, 180, 14, 15, 16, 17, 215, 216, 217, 218, 219, 220, 221, 12, 222, 223, 224, 141, 225, 143, 226, 144, 234, 235, 236, 237, 238, 239, 240, 241, 242, 243, 244, 245, 246, 247, 248, 249, 250, 251, 252, 274, 275, 276, 259, 260, 261, 262, 263, 264, 265, 266, 267] (by decide +kernel) (by decide +kernel)
set_option maxRecDepth 20000 in
theorem gX7_passTick_X3_control : GoodIn wsX7_passTick (wsV RX7 157 RX3 yX3_control wsX3_control) := goodIn_app (goodIn_of _ (by decide +kernel)) ggX7_passTick_X3_control
theorem dX7_passTick_0 : decode cX7_passTick 0 = .ok (.aload_n 0, 1) := by decide +kernel
theorem dX7_passTick_1 : decode cX7_passTick 1 = .ok (.dup, 1) := by decide +kernel
theorem dX7_passTick_2 : decode cX7_passTick 2 = .ok (.getfield 80, 3) := by decide +kernel
theorem dX7_passTick_5 : decode cX7_passTick 5 = .ok (.iconst 1, 1) := by decide +kernel
theorem dX7_passTick_6 : decode cX7_passTick 6 = .ok (.iadd, 1) := by decide +kernel
theorem dX7_passTick_7 : decode cX7_passTick 7 = .ok (.putfield 80, 3) := by decide +kernel
theorem dX7_passTick_10 : decode cX7_passTick 10 = .ok (.iconst 0, 1) := by decide +kernel
theorem dX7_passTick_11 : decode cX7_passTick 11 = .ok (.istore_n 1, 1) := by decide +kernel
theorem dX7_passTick_12 : decode cX7_passTick 12 = .ok (.iload_n 1, 1) := by decide +kernel
theorem dX7_passTick_13 : decode cX7_passTick 13 = .ok (.aload_n 0, 1) := by decide +kernel
theorem dX7_passTick_14 : decode cX7_passTick 14 = .ok (.getfield 33, 3) := by decide +kernel
theorem dX7_passTick_17 : decode cX7_passTick 17 = .ok (.if_icmp .ge 18, 3) := by decide +kernel
theorem dX7_passTick_20 : decode cX7_passTick 20 = .ok (.aload_n 0, 1) := by decide +kernel
theorem dX7_passTick_21 : decode cX7_passTick 21 = .ok (.getfield 11, 3) := by decide +kernel
theorem dX7_passTick_24 : decode cX7_passTick 24 = .ok (.iload_n 1, 1) := by decide +kernel
theorem dX7_passTick_25 : decode cX7_passTick 25 = .ok (.aaload, 1) := by decide +kernel
theorem dX7_passTick_26 : decode cX7_passTick 26 = .ok (.invokevirtual 147, 3) := by decide +kernel
theorem dX7_passTick_29 : decode cX7_passTick 29 = .ok (.iinc 1 1, 3) := by decide +kernel
theorem dX7_passTick_32 : decode cX7_passTick 32 = .ok (.goto (-20), 3) := by decide +kernel
theorem dX7_passTick_35 : decode cX7_passTick 35 = .ok (.aload_n 0, 1) := by decide +kernel
theorem dX7_passTick_36 : decode cX7_passTick 36 = .ok (.invokevirtual 150, 3) := by decide +kernel
theorem dX7_passTick_39 : decode cX7_passTick 39 = .ok (.iconst 0, 1) := by decide +kernel
theorem dX7_passTick_40 : decode cX7_passTick 40 = .ok (.istore_n 1, 1) := by decide +kernel
theorem dX7_passTick_41 : decode cX7_passTick 41 = .ok (.iload_n 1, 1) := by decide +kernel
theorem dX7_passTick_42 : decode cX7_passTick 42 = .ok (.aload_n 0, 1) := by decide +kernel
theorem dX7_passTick_43 : decode cX7_passTick 43 = .ok (.getfield 33, 3) := by decide +kernel
theorem dX7_passTick_46 : decode cX7_passTick 46 = .ok (.if_icmp .ge 43, 3) := by decide +kernel
theorem dX7_passTick_49 : decode cX7_passTick 49 = .ok (.aload_n 0, 1) := by decide +kernel
theorem dX7_passTick_50 : decode cX7_passTick 50 = .ok (.getfield 11, 3) := by decide +kernel
theorem dX7_passTick_53 : decode cX7_passTick 53 = .ok (.iload_n 1, 1) := by decide +kernel
theorem dX7_passTick_54 : decode cX7_passTick 54 = .ok (.aaload, 1) := by decide +kernel
theorem dX7_passTick_55 : decode cX7_passTick 55 = .ok (.astore_n 2, 1) := by decide +kernel
theorem dX7_passTick_56 : decode cX7_passTick 56 = .ok (.iconst 0, 1) := by decide +kernel
theorem dX7_passTick_57 : decode cX7_passTick 57 = .ok (.istore_n 3, 1) := by decide +kernel
theorem dX7_passTick_58 : decode cX7_passTick 58 = .ok (.iload_n 3, 1) := by decide +kernel
theorem dX7_passTick_59 : decode cX7_passTick 59 = .ok (.aload_n 2, 1) := by decide +kernel
theorem dX7_passTick_60 : decode cX7_passTick 60 = .ok (.getfield 129, 3) := by decide +kernel
theorem dX7_passTick_63 : decode cX7_passTick 63 = .ok (.if_icmp .ge 20, 3) := by decide +kernel
theorem dX7_passTick_66 : decode cX7_passTick 66 = .ok (.aload_n 0, 1) := by decide +kernel
theorem dX7_passTick_67 : decode cX7_passTick 67 = .ok (.aload_n 2, 1) := by decide +kernel
theorem dX7_passTick_68 : decode cX7_passTick 68 = .ok (.aload_n 2, 1) := by decide +kernel
theorem dX7_passTick_69 : decode cX7_passTick 69 = .ok (.getfield 132, 3) := by decide +kernel
theorem dX7_passTick_72 : decode cX7_passTick 72 = .ok (.iload_n 3, 1) := by decide +kernel
theorem dX7_passTick_73 : decode cX7_passTick 73 = .ok (.aaload, 1) := by decide +kernel
theorem dX7_passTick_74 : decode cX7_passTick 74 = .ok (.invokevirtual 153, 3) := by decide +kernel
theorem dX7_passTick_77 : decode cX7_passTick 77 = .ok (.iinc 3 1, 3) := by decide +kernel
theorem dX7_passTick_80 : decode cX7_passTick 80 = .ok (.goto (-22), 3) := by decide +kernel
theorem dX7_passTick_83 : decode cX7_passTick 83 = .ok (.iinc 1 1, 3) := by decide +kernel
theorem dX7_passTick_86 : decode cX7_passTick 86 = .ok (.goto (-45), 3) := by decide +kernel
theorem dX7_passTick_89 : decode cX7_passTick 89 = .ok (.aload_n 0, 1) := by decide +kernel
theorem dX7_passTick_90 : decode cX7_passTick 90 = .ok (.getfield 80, 3) := by decide +kernel
theorem dX7_passTick_93 : decode cX7_passTick 93 = .ok (.bipush 10, 2) := by decide +kernel
theorem dX7_passTick_95 : decode cX7_passTick 95 = .ok (.irem, 1) := by decide +kernel
theorem dX7_passTick_96 : decode cX7_passTick 96 = .ok (.ifCond .ne 28, 3) := by decide +kernel
theorem dX7_passTick_99 : decode cX7_passTick 99 = .ok (.iconst 0, 1) := by decide +kernel
theorem dX7_passTick_100 : decode cX7_passTick 100 = .ok (.istore_n 1, 1) := by decide +kernel
theorem dX7_passTick_101 : decode cX7_passTick 101 = .ok (.iload_n 1, 1) := by decide +kernel
theorem dX7_passTick_102 : decode cX7_passTick 102 = .ok (.aload_n 0, 1) := by decide +kernel
theorem dX7_passTick_103 : decode cX7_passTick 103 = .ok (.getfield 33, 3) := by decide +kernel
theorem dX7_passTick_106 : decode cX7_passTick 106 = .ok (.if_icmp .ge 18, 3) := by decide +kernel
theorem dX7_passTick_109 : decode cX7_passTick 109 = .ok (.aload_n 0, 1) := by decide +kernel
theorem dX7_passTick_110 : decode cX7_passTick 110 = .ok (.getfield 11, 3) := by decide +kernel
theorem dX7_passTick_113 : decode cX7_passTick 113 = .ok (.iload_n 1, 1) := by decide +kernel
theorem dX7_passTick_114 : decode cX7_passTick 114 = .ok (.aaload, 1) := by decide +kernel
theorem dX7_passTick_115 : decode cX7_passTick 115 = .ok (.invokevirtual 157, 3) := by decide +kernel
theorem dX7_passTick_118 : decode cX7_passTick 118 = .ok (.iinc 1 1, 3) := by decide +kernel
theorem dX7_passTick_121 : decode cX7_passTick 121 = .ok (.goto (-20), 3) := by decide +kernel
theorem dX7_passTick_124 : decode cX7_passTick 124 = .ok (.return_, 1) := by decide +kernel
set_option maxRecDepth 20000 in
theorem ggX7_fireTimers_X7_fire : GoodIn wsX7_fireTimers wsX7_fire := goodIn_r _ [11, 4, 12, 13, 14, 15, 10, 16, 17, 18, 19, 20, 21, 22, 23, 24, 25, 26, 27, 28, 29, 30, 31, 32, 33, 34, 35, 36, 37, 38, 39, 40, 41, 42, 43, 44, 45, 46, 56, 57, 58, 59, 60, 61, 62, 69, 70, 71, 72, 73, 74, 75, 76, 77, 78, 79, 80, 81, 82, 83, 84, 85, 86, 87, 88, 89, 90, 91] (by decide +kernel) (by decide +kernel)
set_option maxRecDepth 20000 in
theorem gX7_fireTimers_X7_fire : GoodIn wsX7_fireTimers (wsV RX7 166 RX7 yX7_fire wsX7_fire) := goodIn_app (goodIn_of _ (by decide +kernel)) ggX7_fireTimers_X7_fire
set_option maxRecDepth 20000 in
theorem ggX7_fireTimers_X4_move : GoodIn wsX7_fireTimers wsX4_move := goodIn_r _ [51, 52, 53, 54, 55, 63, 64, 65, 66, 67, 68] (by decide +kernel) (by decide +kernel)
set_option maxRecDepth 20000 in
theorem gX7_fireTimers_X4_move : GoodIn wsX7_fireTimers (wsV RX7 170 RX4 yX4_move wsX4_move) := goodIn_app (goodIn_of _ (by decide +kernel)) ggX7_fireTimers_X4_move
theorem dX7_fireTimers_0 : decode cX7_fireTimers 0 = .ok (.iconst 0, 1) := by decide +kernel
theorem dX7_fireTimers_1 : decode cX7_fireTimers 1 = .ok (.istore_n 1, 1) := by decide +kernel
theorem dX7_fireTimers_2 : decode cX7_fireTimers 2 = .ok (.iconst 0, 1) := by decide +kernel
theorem dX7_fireTimers_3 : decode cX7_fireTimers 3 = .ok (.istore_n 2, 1) := by decide +kernel
theorem dX7_fireTimers_4 : decode cX7_fireTimers 4 = .ok (.iload_n 2, 1) := by decide +kernel
theorem dX7_fireTimers_5 : decode cX7_fireTimers 5 = .ok (.aload_n 0, 1) := by decide +kernel
theorem dX7_fireTimers_6 : decode cX7_fireTimers 6 = .ok (.getfield 18, 3) := by decide +kernel
theorem dX7_fireTimers_9 : decode cX7_fireTimers 9 = .ok (.getfield 160, 3) := by decide +kernel
theorem dX7_fireTimers_12 : decode cX7_fireTimers 12 = .ok (.if_icmp .ge 62, 3) := by decide +kernel
theorem dX7_fireTimers_15 : decode cX7_fireTimers 15 = .ok (.aload_n 0, 1) := by decide +kernel
theorem dX7_fireTimers_16 : decode cX7_fireTimers 16 = .ok (.getfield 18, 3) := by decide +kernel
theorem dX7_fireTimers_19 : decode cX7_fireTimers 19 = .ok (.getfield 161, 3) := by decide +kernel
theorem dX7_fireTimers_22 : decode cX7_fireTimers 22 = .ok (.iload_n 2, 1) := by decide +kernel
theorem dX7_fireTimers_23 : decode cX7_fireTimers 23 = .ok (.iaload, 1) := by decide +kernel
theorem dX7_fireTimers_24 : decode cX7_fireTimers 24 = .ok (.aload_n 0, 1) := by decide +kernel
theorem dX7_fireTimers_25 : decode cX7_fireTimers 25 = .ok (.getfield 80, 3) := by decide +kernel
theorem dX7_fireTimers_28 : decode cX7_fireTimers 28 = .ok (.if_icmp .ne 28, 3) := by decide +kernel
theorem dX7_fireTimers_31 : decode cX7_fireTimers 31 = .ok (.aload_n 0, 1) := by decide +kernel
theorem dX7_fireTimers_32 : decode cX7_fireTimers 32 = .ok (.aload_n 0, 1) := by decide +kernel
theorem dX7_fireTimers_33 : decode cX7_fireTimers 33 = .ok (.getfield 18, 3) := by decide +kernel
theorem dX7_fireTimers_36 : decode cX7_fireTimers 36 = .ok (.getfield 164, 3) := by decide +kernel
theorem dX7_fireTimers_39 : decode cX7_fireTimers 39 = .ok (.iload_n 2, 1) := by decide +kernel
theorem dX7_fireTimers_40 : decode cX7_fireTimers 40 = .ok (.aaload, 1) := by decide +kernel
theorem dX7_fireTimers_41 : decode cX7_fireTimers 41 = .ok (.aload_n 0, 1) := by decide +kernel
theorem dX7_fireTimers_42 : decode cX7_fireTimers 42 = .ok (.getfield 18, 3) := by decide +kernel
theorem dX7_fireTimers_45 : decode cX7_fireTimers 45 = .ok (.getfield 165, 3) := by decide +kernel
theorem dX7_fireTimers_48 : decode cX7_fireTimers 48 = .ok (.iload_n 2, 1) := by decide +kernel
theorem dX7_fireTimers_49 : decode cX7_fireTimers 49 = .ok (.iaload, 1) := by decide +kernel
theorem dX7_fireTimers_50 : decode cX7_fireTimers 50 = .ok (.invokevirtual 166, 3) := by decide +kernel
theorem dX7_fireTimers_53 : decode cX7_fireTimers 53 = .ok (.goto 15, 3) := by decide +kernel
theorem dX7_fireTimers_56 : decode cX7_fireTimers 56 = .ok (.aload_n 0, 1) := by decide +kernel
theorem dX7_fireTimers_57 : decode cX7_fireTimers 57 = .ok (.getfield 18, 3) := by decide +kernel
theorem dX7_fireTimers_60 : decode cX7_fireTimers 60 = .ok (.iload_n 2, 1) := by decide +kernel
theorem dX7_fireTimers_61 : decode cX7_fireTimers 61 = .ok (.iload_n 1, 1) := by decide +kernel
theorem dX7_fireTimers_62 : decode cX7_fireTimers 62 = .ok (.invokevirtual 170, 3) := by decide +kernel
theorem dX7_fireTimers_65 : decode cX7_fireTimers 65 = .ok (.iinc 1 1, 3) := by decide +kernel
theorem dX7_fireTimers_68 : decode cX7_fireTimers 68 = .ok (.iinc 2 1, 3) := by decide +kernel
theorem dX7_fireTimers_71 : decode cX7_fireTimers 71 = .ok (.goto (-67), 3) := by decide +kernel
theorem dX7_fireTimers_74 : decode cX7_fireTimers 74 = .ok (.aload_n 0, 1) := by decide +kernel
theorem dX7_fireTimers_75 : decode cX7_fireTimers 75 = .ok (.getfield 18, 3) := by decide +kernel
theorem dX7_fireTimers_78 : decode cX7_fireTimers 78 = .ok (.iload_n 1, 1) := by decide +kernel
theorem dX7_fireTimers_79 : decode cX7_fireTimers 79 = .ok (.putfield 160, 3) := by decide +kernel
theorem dX7_fireTimers_82 : decode cX7_fireTimers 82 = .ok (.return_, 1) := by decide +kernel
set_option maxRecDepth 20000 in
theorem ggX7_fire_X7_makeEvent : GoodIn wsX7_fire wsX7_makeEvent := goodIn_r _ [7, 8, 38, 39, 40, 41, 42, 43, 44] (by decide +kernel) (by decide +kernel)
set_option maxRecDepth 20000 in
theorem gX7_fire_X7_makeEvent : GoodIn wsX7_fire (wsV RX7 77 RX7 yX7_makeEvent wsX7_makeEvent) := goodIn_app (goodIn_of _ (by decide +kernel)) ggX7_fire_X7_makeEvent
set_option maxRecDepth 20000 in
theorem ggX7_fire_X3_ask : GoodIn wsX7_fire wsX3_ask := goodIn_r _ [13, 14, 15, 16, 17, 18, 19, 12, 20, 21, 22, 23, 24, 45, 46, 47, 48, 49, 50, 51, 52, 53, 54, 55, 56, 57, 58, 59, 60, 61, 62, 63, 64, 65, 66, 67] (by decide +kernel) (by decide +kernel)
set_option maxRecDepth 20000 in
theorem gX7_fire_X3_ask : GoodIn wsX7_fire (wsV RX7 73 RX3 yX3_ask wsX3_ask) := goodIn_app (goodIn_of _ (by decide +kernel)) ggX7_fire_X3_ask
set_option maxRecDepth 20000 in
theorem ggX7_fire_X3_take : GoodIn wsX7_fire wsX3_take := goodIn_r _ [28, 22, 15, 29, 30, 31, 32, 33, 34, 35, 36, 37, 45, 46, 47, 48, 49, 50, 51, 52, 53, 54, 55, 56, 57, 58, 59, 60, 61, 62, 63, 64, 65, 66, 67] (by decide +kernel) (by decide +kernel)
set_option maxRecDepth 20000 in
theorem gX7_fire_X3_take : GoodIn wsX7_fire (wsV RX7 83 RX3 yX3_take wsX3_take) := goodIn_app (goodIn_of _ (by decide +kernel)) ggX7_fire_X3_take
theorem dX7_fire_0 : decode cX7_fire 0 = .ok (.aload_n 0, 1) := by decide +kernel
theorem dX7_fire_1 : decode cX7_fire 1 = .ok (.invokevirtual 77, 3) := by decide +kernel
theorem dX7_fire_4 : decode cX7_fire 4 = .ok (.istore_n 3, 1) := by decide +kernel
theorem dX7_fire_5 : decode cX7_fire 5 = .ok (.aload_n 1, 1) := by decide +kernel
theorem dX7_fire_6 : decode cX7_fire 6 = .ok (.invokevirtual 73, 3) := by decide +kernel
theorem dX7_fire_9 : decode cX7_fire 9 = .ok (.ifCond .ne 16, 3) := by decide +kernel
theorem dX7_fire_12 : decode cX7_fire 12 = .ok (.aload_n 1, 1) := by decide +kernel
theorem dX7_fire_13 : decode cX7_fire 13 = .ok (.iload_n 3, 1) := by decide +kernel
theorem dX7_fire_14 : decode cX7_fire 14 = .ok (.iload_n 2, 1) := by decide +kernel
theorem dX7_fire_15 : decode cX7_fire 15 = .ok (.aload_n 0, 1) := by decide +kernel
theorem dX7_fire_16 : decode cX7_fire 16 = .ok (.getfield 80, 3) := by decide +kernel
theorem dX7_fire_19 : decode cX7_fire 19 = .ok (.invokevirtual 83, 3) := by decide +kernel
theorem dX7_fire_22 : decode cX7_fire 22 = .ok (.goto 13, 3) := by decide +kernel
theorem dX7_fire_25 : decode cX7_fire 25 = .ok (.aload_n 0, 1) := by decide +kernel
theorem dX7_fire_26 : decode cX7_fire 26 = .ok (.dup, 1) := by decide +kernel
theorem dX7_fire_27 : decode cX7_fire 27 = .ok (.getfield 144, 3) := by decide +kernel
theorem dX7_fire_30 : decode cX7_fire 30 = .ok (.iconst 1, 1) := by decide +kernel
theorem dX7_fire_31 : decode cX7_fire 31 = .ok (.iadd, 1) := by decide +kernel
theorem dX7_fire_32 : decode cX7_fire 32 = .ok (.putfield 144, 3) := by decide +kernel
theorem dX7_fire_35 : decode cX7_fire 35 = .ok (.return_, 1) := by decide +kernel
set_option maxRecDepth 20000 in
theorem ggX7_letWork_X7_workOnBatch : GoodIn wsX7_letWork wsX7_workOnBatch := goodIn_r _ [8, 9, 10, 11, 12, 13, 14, 15, 16, 17, 18, 19, 20, 21, 22, 23, 24, 25, 26, 27, 28, 29, 30, 31, 32, 33, 34, 35, 36, 37, 38, 39, 40, 41, 42, 43, 44, 7, 45, 46, 47, 48, 49, 50, 51, 52, 53, 54, 55, 56, 57, 58, 59, 60, 61, 62, 63, 64, 65, 66, 67, 68, 69, 70, 71, 72, 73, 74, 75, 76, 77, 78, 79, 80, 81, 82, 83, 84, 85, 86, 87, 1, 88, 89, 2, 90, 91, 92, 93, 94, 95, 96, 97, 98, 99, 100, 101, 102, 103, 104, 105, 106, 107, 108, 109, 110, 111, 112, 113, 114, 115, 116, 117, 118, 119, 120, 121, 122, 123, 124, 125, 126, 127, 128, 129, 130, 131, 132, 133, 134, 135, 136, 137, 155, 156, 157, 158, 159, 164, 165, 166, 167, 168, 169, 170, 171, 172, 173, 174, 175, 176, 177, 178, 179, 180, 181, 182, 160, 161, 162, 163, 183, 184, 185, 186, 187, 188, 189, 190, 191, 192, 193, 194, 195, 196, 197, 198, 199, 200, 201] (by decide +kernel) (by decide +kernel)
set_option maxRecDepth 20000 in
theorem gX7_letWork_X7_workOnBatch : GoodIn wsX7_letWork (wsV RX7 177 RX7 yX7_workOnBatch wsX7_workOnBatch) := goodIn_app (goodIn_of _ (by decide +kernel)) ggX7_letWork_X7_workOnBatch
set_option maxRecDepth 20000 in
theorem ggX7_letWork_X3_startBatch : GoodIn wsX7_letWork wsX3_startBatch := goodIn_r _ [141, 18, 69, 142, 143, 19, 144, 145, 146, 147, 78, 148, 80, 149, 128, 129, 130, 81, 150, 105, 106, 107, 82, 83, 151, 152, 153, 154, 155, 156, 157, 158, 159, 164, 165, 166, 167, 168, 169, 170, 171, 172, 173, 174, 175, 176, 177, 178, 179, 180, 181, 182, 160, 161, 162, 163] (by decide +kernel) (by decide +kernel)
set_option maxRecDepth 20000 in
theorem gX7_letWork_X3_startBatch : GoodIn wsX7_letWork (wsV RX7 180 RX3 yX3_startBatch wsX3_startBatch) := goodIn_app (goodIn_of _ (by decide +kernel)) ggX7_letWork_X3_startBatch
theorem dX7_letWork_0 : decode cX7_letWork 0 = .ok (.aload_n 2, 1) := by decide +kernel
theorem dX7_letWork_1 : decode cX7_letWork 1 = .ok (.getfield 174, 3) := by decide +kernel
theorem dX7_letWork_4 : decode cX7_letWork 4 = .ok (.getfield 122, 3) := by decide +kernel
theorem dX7_letWork_7 : decode cX7_letWork 7 = .ok (.ifCond .le 9, 3) := by decide +kernel
theorem dX7_letWork_10 : decode cX7_letWork 10 = .ok (.aload_n 0, 1) := by decide +kernel
theorem dX7_letWork_11 : decode cX7_letWork 11 = .ok (.aload_n 1, 1) := by decide +kernel
theorem dX7_letWork_12 : decode cX7_letWork 12 = .ok (.aload_n 2, 1) := by decide +kernel
theorem dX7_letWork_13 : decode cX7_letWork 13 = .ok (.invokevirtual 177, 3) := by decide +kernel
theorem dX7_letWork_16 : decode cX7_letWork 16 = .ok (.aload_n 2, 1) := by decide +kernel
theorem dX7_letWork_17 : decode cX7_letWork 17 = .ok (.getfield 174, 3) := by decide +kernel
theorem dX7_letWork_20 : decode cX7_letWork 20 = .ok (.getfield 122, 3) := by decide +kernel
theorem dX7_letWork_23 : decode cX7_letWork 23 = .ok (.ifCond .ne 8, 3) := by decide +kernel
theorem dX7_letWork_26 : decode cX7_letWork 26 = .ok (.aload_n 1, 1) := by decide +kernel
theorem dX7_letWork_27 : decode cX7_letWork 27 = .ok (.aload_n 2, 1) := by decide +kernel
theorem dX7_letWork_28 : decode cX7_letWork 28 = .ok (.invokevirtual 180, 3) := by decide +kernel
theorem dX7_letWork_31 : decode cX7_letWork 31 = .ok (.aload_n 2, 1) := by decide +kernel
theorem dX7_letWork_32 : decode cX7_letWork 32 = .ok (.aload_n 2, 1) := by decide +kernel
theorem dX7_letWork_33 : decode cX7_letWork 33 = .ok (.getfield 174, 3) := by decide +kernel
theorem dX7_letWork_36 : decode cX7_letWork 36 = .ok (.getfield 122, 3) := by decide +kernel
theorem dX7_letWork_39 : decode cX7_letWork 39 = .ok (.ifCond .ne 12, 3) := by decide +kernel
theorem dX7_letWork_42 : decode cX7_letWork 42 = .ok (.aload_n 2, 1) := by decide +kernel
theorem dX7_letWork_43 : decode cX7_letWork 43 = .ok (.getfield 184, 3) := by decide +kernel
theorem dX7_letWork_46 : decode cX7_letWork 46 = .ok (.iconst 1, 1) := by decide +kernel
theorem dX7_letWork_47 : decode cX7_letWork 47 = .ok (.iadd, 1) := by decide +kernel
theorem dX7_letWork_48 : decode cX7_letWork 48 = .ok (.goto 4, 3) := by decide +kernel
theorem dX7_letWork_51 : decode cX7_letWork 51 = .ok (.iconst 0, 1) := by decide +kernel
theorem dX7_letWork_52 : decode cX7_letWork 52 = .ok (.putfield 184, 3) := by decide +kernel
theorem dX7_letWork_55 : decode cX7_letWork 55 = .ok (.return_, 1) := by decide +kernel
set_option maxRecDepth 20000 in
theorem ggX7_workOnBatch_X3_collectGifts : GoodIn wsX7_workOnBatch wsX3_collectGifts := goodIn_r _ [8, 9, 10, 11, 12, 13, 14, 15, 16, 17, 7, 18, 19, 20, 21, 22, 23, 24, 25, 26, 27, 28, 29, 30, 31, 32, 33, 138, 139, 140, 141, 142, 143, 144, 145, 146, 147, 148, 149, 150, 151, 152, 153, 154, 155, 156, 133, 134, 135, 136, 137, 157, 158, 159, 160, 161, 162, 163, 164, 165, 166] (by decide +kernel) (by decide +kernel)
set_option maxRecDepth 20000 in
theorem gX7_workOnBatch_X3_collectGifts : GoodIn wsX7_workOnBatch (wsV RX7 193 RX3 yX3_collectGifts wsX3_collectGifts) := goodIn_app (goodIn_of _ (by decide +kernel)) ggX7_workOnBatch_X3_collectGifts
set_option maxRecDepth 20000 in
theorem ggX7_workOnBatch_X7_offerGifts : GoodIn wsX7_workOnBatch wsX7_offerGifts := goodIn_r _ [38, 39, 40, 41, 42, 43, 44, 45, 46, 47, 37, 48, 49, 50, 51, 52, 7, 53, 54, 55, 56, 57, 58, 59, 60, 61, 62, 11, 63, 64, 65, 66, 67, 68, 69, 70, 71, 72, 73, 74, 75, 76, 161, 162, 163, 164, 165, 166, 167, 168, 169, 170, 171, 172, 173, 138, 139, 140, 141, 142, 143, 144, 145, 146, 147, 148, 149, 150, 151, 152, 153, 154, 155, 156, 157, 158, 159, 160] (by decide +kernel) (by decide +kernel)
set_option maxRecDepth 20000 in
theorem gX7_workOnBatch_X7_offerGifts : GoodIn wsX7_workOnBatch (wsV RX7 200 RX7 yX7_offerGifts wsX7_offerGifts) := goodIn_app (goodIn_of _ (by decide +kernel)) ggX7_workOnBatch_X7_offerGifts
set_option maxRecDepth 20000 in
theorem ggX7_workOnBatch_X7_finishBatch : GoodIn wsX7_workOnBatch wsX7_finishBatch := goodIn_r _ [80, 81, 82, 83, 84, 85, 86, 87, 88, 89, 90, 91, 2, 3, 92, 93, 94, 95, 96, 97, 98, 99, 100, 101, 102, 103, 104, 105, 106, 107, 108, 109, 110, 111, 112, 113, 114, 115, 116, 117, 118, 119, 120, 121, 122, 123, 124, 125, 126, 127, 128, 129, 23, 130, 25, 131, 132, 133, 134, 135, 136, 137, 138, 139, 140, 141, 142, 143, 144, 145, 146, 147, 148, 149, 150, 151, 152, 153, 154, 155, 156, 157, 158, 159, 160, 167, 168, 169, 170, 171, 172, 173, 174, 175, 176, 177, 178, 179, 161, 162, 163, 164, 165, 166] (by decide +kernel) (by decide +kernel)
set_option maxRecDepth 20000 in
theorem gX7_workOnBatch_X7_finishBatch : GoodIn wsX7_workOnBatch (wsV RX7 204 RX7 yX7_finishBatch wsX7_finishBatch) := goodIn_app (goodIn_of _ (by decide +kernel)) ggX7_workOnBatch_X7_finishBatch
theorem dX7_workOnBatch_0 : decode cX7_workOnBatch 0 = .ok (.aload_n 2, 1) := by decide +kernel
theorem dX7_workOnBatch_1 : decode cX7_workOnBatch 1 = .ok (.getfield 187, 3) := by decide +kernel
theorem dX7_workOnBatch_4 : decode cX7_workOnBatch 4 = .ok (.ifCond .le 13, 3) := by decide +kernel
theorem dX7_workOnBatch_7 : decode cX7_workOnBatch 7 = .ok (.aload_n 2, 1) := by decide +kernel
theorem dX7_workOnBatch_8 : decode cX7_workOnBatch 8 = .ok (.dup, 1) := by decide +kernel
theorem dX7_workOnBatch_9 : decode cX7_workOnBatch 9 = .ok (.getfield 187, 3) := by decide +kernel
theorem dX7_workOnBatch_12 : decode cX7_workOnBatch 12 = .ok (.iconst 1, 1) := by decide +kernel
theorem dX7_workOnBatch_13 : decode cX7_workOnBatch 13 = .ok (.isub, 1) := by decide +kernel
theorem dX7_workOnBatch_14 : decode cX7_workOnBatch 14 = .ok (.putfield 187, 3) := by decide +kernel
theorem dX7_workOnBatch_17 : decode cX7_workOnBatch 17 = .ok (.aload_n 2, 1) := by decide +kernel
theorem dX7_workOnBatch_18 : decode cX7_workOnBatch 18 = .ok (.getfield 187, 3) := by decide +kernel
theorem dX7_workOnBatch_21 : decode cX7_workOnBatch 21 = .ok (.ifCond .le 4, 3) := by decide +kernel
theorem dX7_workOnBatch_24 : decode cX7_workOnBatch 24 = .ok (.return_, 1) := by decide +kernel
theorem dX7_workOnBatch_25 : decode cX7_workOnBatch 25 = .ok (.aload_n 2, 1) := by decide +kernel
theorem dX7_workOnBatch_26 : decode cX7_workOnBatch 26 = .ok (.getfield 190, 3) := by decide +kernel
theorem dX7_workOnBatch_29 : decode cX7_workOnBatch 29 = .ok (.ifCond .ne 13, 3) := by decide +kernel
theorem dX7_workOnBatch_32 : decode cX7_workOnBatch 32 = .ok (.aload_n 1, 1) := by decide +kernel
theorem dX7_workOnBatch_33 : decode cX7_workOnBatch 33 = .ok (.aload_n 2, 1) := by decide +kernel
theorem dX7_workOnBatch_34 : decode cX7_workOnBatch 34 = .ok (.invokevirtual 193, 3) := by decide +kernel
theorem dX7_workOnBatch_37 : decode cX7_workOnBatch 37 = .ok (.aload_n 2, 1) := by decide +kernel
theorem dX7_workOnBatch_38 : decode cX7_workOnBatch 38 = .ok (.iconst 1, 1) := by decide +kernel
theorem dX7_workOnBatch_39 : decode cX7_workOnBatch 39 = .ok (.putfield 190, 3) := by decide +kernel
theorem dX7_workOnBatch_42 : decode cX7_workOnBatch 42 = .ok (.aload_n 0, 1) := by decide +kernel
theorem dX7_workOnBatch_43 : decode cX7_workOnBatch 43 = .ok (.aload_n 2, 1) := by decide +kernel
theorem dX7_workOnBatch_44 : decode cX7_workOnBatch 44 = .ok (.getfield 196, 3) := by decide +kernel
theorem dX7_workOnBatch_47 : decode cX7_workOnBatch 47 = .ok (.invokevirtual 200, 3) := by decide +kernel
theorem dX7_workOnBatch_50 : decode cX7_workOnBatch 50 = .ok (.ifCond .eq 9, 3) := by decide +kernel
theorem dX7_workOnBatch_53 : decode cX7_workOnBatch 53 = .ok (.aload_n 0, 1) := by decide +kernel
theorem dX7_workOnBatch_54 : decode cX7_workOnBatch 54 = .ok (.aload_n 1, 1) := by decide +kernel
theorem dX7_workOnBatch_55 : decode cX7_workOnBatch 55 = .ok (.aload_n 2, 1) := by decide +kernel
theorem dX7_workOnBatch_56 : decode cX7_workOnBatch 56 = .ok (.invokevirtual 204, 3) := by decide +kernel
theorem dX7_workOnBatch_59 : decode cX7_workOnBatch 59 = .ok (.return_, 1) := by decide +kernel
set_option maxRecDepth 20000 in
theorem ggX7_offerGifts_X7_makeEvent : GoodIn wsX7_offerGifts wsX7_makeEvent := goodIn_r _ [11, 12, 48, 49, 50, 51, 52, 53, 54] (by decide +kernel) (by decide +kernel)
set_option maxRecDepth 20000 in
theorem gX7_offerGifts_X7_makeEvent : GoodIn wsX7_offerGifts (wsV RX7 77 RX7 yX7_makeEvent wsX7_makeEvent) := goodIn_app (goodIn_of _ (by decide +kernel)) ggX7_offerGifts_X7_makeEvent
set_option maxRecDepth 20000 in
theorem ggX7_offerGifts_X3_ask : GoodIn wsX7_offerGifts wsX3_ask := goodIn_r _ [17, 18, 19, 20, 21, 22, 23, 16, 24, 25, 26, 27, 28, 55, 56, 57, 58, 59, 60, 61, 62, 63, 64, 65, 66, 67, 68, 69, 70, 71, 72, 73, 74, 75, 76, 77] (by decide +kernel) (by decide +kernel)
set_option maxRecDepth 20000 in
theorem gX7_offerGifts_X3_ask : GoodIn wsX7_offerGifts (wsV RX7 73 RX3 yX3_ask wsX3_ask) := goodIn_app (goodIn_of _ (by decide +kernel)) ggX7_offerGifts_X3_ask
set_option maxRecDepth 20000 in
theorem ggX7_offerGifts_X3_take : GoodIn wsX7_offerGifts wsX3_take := goodIn_r _ [32, 26, 19, 33, 34, 35, 36, 37, 38, 39, 40, 41, 55, 56, 57, 58, 59, 60, 61, 62, 63, 64, 65, 66, 67, 68, 69, 70, 71, 72, 73, 74, 75, 76, 77] (by decide +kernel) (by decide +kernel)
set_option maxRecDepth 20000 in
theorem gX7_offerGifts_X3_take : GoodIn wsX7_offerGifts (wsV RX7 83 RX3 yX3_take wsX3_take) := goodIn_app (goodIn_of _ (by decide +kernel)) ggX7_offerGifts_X3_take
theorem dX7_offerGifts_0 : decode cX7_offerGifts 0 = .ok (.aload_n 1, 1) := by decide +kernel
theorem dX7_offerGifts_1 : decode cX7_offerGifts 1 = .ok (.getfield 207, 3) := by decide +kernel
theorem dX7_offerGifts_4 : decode cX7_offerGifts 4 = .ok (.aload_n 1, 1) := by decide +kernel
theorem dX7_offerGifts_5 : decode cX7_offerGifts 5 = .ok (.getfield 212, 3) := by decide +kernel
theorem dX7_offerGifts_8 : decode cX7_offerGifts 8 = .ok (.if_icmp .ge 82, 3) := by decide +kernel
theorem dX7_offerGifts_11 : decode cX7_offerGifts 11 = .ok (.aload_n 1, 1) := by decide +kernel
theorem dX7_offerGifts_12 : decode cX7_offerGifts 12 = .ok (.getfield 213, 3) := by decide +kernel
theorem dX7_offerGifts_15 : decode cX7_offerGifts 15 = .ok (.iconst (-1), 1) := by decide +kernel
theorem dX7_offerGifts_16 : decode cX7_offerGifts 16 = .ok (.if_icmp .ne 11, 3) := by decide +kernel
theorem dX7_offerGifts_19 : decode cX7_offerGifts 19 = .ok (.aload_n 1, 1) := by decide +kernel
theorem dX7_offerGifts_20 : decode cX7_offerGifts 20 = .ok (.aload_n 0, 1) := by decide +kernel
theorem dX7_offerGifts_21 : decode cX7_offerGifts 21 = .ok (.invokevirtual 77, 3) := by decide +kernel
theorem dX7_offerGifts_24 : decode cX7_offerGifts 24 = .ok (.putfield 213, 3) := by decide +kernel
theorem dX7_offerGifts_27 : decode cX7_offerGifts 27 = .ok (.aload_n 1, 1) := by decide +kernel
theorem dX7_offerGifts_28 : decode cX7_offerGifts 28 = .ok (.getfield 216, 3) := by decide +kernel
theorem dX7_offerGifts_31 : decode cX7_offerGifts 31 = .ok (.aload_n 1, 1) := by decide +kernel
theorem dX7_offerGifts_32 : decode cX7_offerGifts 32 = .ok (.getfield 207, 3) := by decide +kernel
theorem dX7_offerGifts_35 : decode cX7_offerGifts 35 = .ok (.aaload, 1) := by decide +kernel
theorem dX7_offerGifts_36 : decode cX7_offerGifts 36 = .ok (.astore_n 2, 1) := by decide +kernel
theorem dX7_offerGifts_37 : decode cX7_offerGifts 37 = .ok (.aload_n 2, 1) := by decide +kernel
theorem dX7_offerGifts_38 : decode cX7_offerGifts 38 = .ok (.invokevirtual 73, 3) := by decide +kernel
theorem dX7_offerGifts_41 : decode cX7_offerGifts 41 = .ok (.ifCond .eq 5, 3) := by decide +kernel
theorem dX7_offerGifts_44 : decode cX7_offerGifts 44 = .ok (.iconst 0, 1) := by decide +kernel
theorem dX7_offerGifts_45 : decode cX7_offerGifts 45 = .ok (.ireturn, 1) := by decide +kernel
theorem dX7_offerGifts_46 : decode cX7_offerGifts 46 = .ok (.aload_n 2, 1) := by decide +kernel
theorem dX7_offerGifts_47 : decode cX7_offerGifts 47 = .ok (.aload_n 1, 1) := by decide +kernel
theorem dX7_offerGifts_48 : decode cX7_offerGifts 48 = .ok (.getfield 213, 3) := by decide +kernel
theorem dX7_offerGifts_51 : decode cX7_offerGifts 51 = .ok (.aload_n 1, 1) := by decide +kernel
theorem dX7_offerGifts_52 : decode cX7_offerGifts 52 = .ok (.getfield 219, 3) := by decide +kernel
theorem dX7_offerGifts_55 : decode cX7_offerGifts 55 = .ok (.aload_n 1, 1) := by decide +kernel
theorem dX7_offerGifts_56 : decode cX7_offerGifts 56 = .ok (.getfield 207, 3) := by decide +kernel
theorem dX7_offerGifts_59 : decode cX7_offerGifts 59 = .ok (.iaload, 1) := by decide +kernel
theorem dX7_offerGifts_60 : decode cX7_offerGifts 60 = .ok (.aload_n 1, 1) := by decide +kernel
theorem dX7_offerGifts_61 : decode cX7_offerGifts 61 = .ok (.getfield 220, 3) := by decide +kernel
theorem dX7_offerGifts_64 : decode cX7_offerGifts 64 = .ok (.aload_n 1, 1) := by decide +kernel
theorem dX7_offerGifts_65 : decode cX7_offerGifts 65 = .ok (.getfield 207, 3) := by decide +kernel
theorem dX7_offerGifts_68 : decode cX7_offerGifts 68 = .ok (.iaload, 1) := by decide +kernel
theorem dX7_offerGifts_69 : decode cX7_offerGifts 69 = .ok (.invokevirtual 83, 3) := by decide +kernel
theorem dX7_offerGifts_72 : decode cX7_offerGifts 72 = .ok (.aload_n 1, 1) := by decide +kernel
theorem dX7_offerGifts_73 : decode cX7_offerGifts 73 = .ok (.iconst (-1), 1) := by decide +kernel
theorem dX7_offerGifts_74 : decode cX7_offerGifts 74 = .ok (.putfield 213, 3) := by decide +kernel
theorem dX7_offerGifts_77 : decode cX7_offerGifts 77 = .ok (.aload_n 1, 1) := by decide +kernel
theorem dX7_offerGifts_78 : decode cX7_offerGifts 78 = .ok (.dup, 1) := by decide +kernel
theorem dX7_offerGifts_79 : decode cX7_offerGifts 79 = .ok (.getfield 207, 3) := by decide +kernel
theorem dX7_offerGifts_82 : decode cX7_offerGifts 82 = .ok (.iconst 1, 1) := by decide +kernel
theorem dX7_offerGifts_83 : decode cX7_offerGifts 83 = .ok (.iadd, 1) := by decide +kernel
theorem dX7_offerGifts_84 : decode cX7_offerGifts 84 = .ok (.putfield 207, 3) := by decide +kernel
theorem dX7_offerGifts_87 : decode cX7_offerGifts 87 = .ok (.goto (-87), 3) := by decide +kernel
theorem dX7_offerGifts_90 : decode cX7_offerGifts 90 = .ok (.iconst 1, 1) := by decide +kernel
theorem dX7_offerGifts_91 : decode cX7_offerGifts 91 = .ok (.ireturn, 1) := by decide +kernel
set_option maxRecDepth 20000 in
theorem ggX7_finishBatch_X5_append : GoodIn wsX7_finishBatch wsX5_append := goodIn_r _ [18, 19, 20, 21, 22, 23, 24, 92, 93, 94] (by decide +kernel) (by decide +kernel)
set_option maxRecDepth 20000 in
theorem gX7_finishBatch_X5_append : GoodIn wsX7_finishBatch (wsV RX7 237 RX5 yX5_append wsX5_append) := goodIn_app (goodIn_of _ (by decide +kernel)) ggX7_finishBatch_X5_append
set_option maxRecDepth 20000 in
theorem ggX7_finishBatch_X0_append : GoodIn wsX7_finishBatch wsX0_append := goodIn_r _ [29, 30, 31, 32, 33, 34, 35, 36, 37, 38, 39, 40, 41, 42, 43, 44, 45, 46, 47, 48, 22, 23, 24, 95, 96, 97] (by decide +kernel) (by decide +kernel)
set_option maxRecDepth 20000 in
theorem gX7_finishBatch_X0_append : GoodIn wsX7_finishBatch (wsV RX7 243 RX0 yX0_append wsX0_append) := goodIn_app (goodIn_of _ (by decide +kernel)) ggX7_finishBatch_X0_append
set_option maxRecDepth 20000 in
theorem ggX7_finishBatch_X2_clear : GoodIn wsX7_finishBatch wsX2_clear := goodIn_r _ [53, 54, 55, 56, 98, 99, 100, 101, 102, 103] (by decide +kernel) (by decide +kernel)
set_option maxRecDepth 20000 in
theorem gX7_finishBatch_X2_clear : GoodIn wsX7_finishBatch (wsV RX7 245 RX2 yX2_clear wsX2_clear) := goodIn_app (goodIn_of _ (by decide +kernel)) ggX7_finishBatch_X2_clear
theorem dX7_finishBatch_0 : decode cX7_finishBatch 0 = .ok (.aload_n 2, 1) := by decide +kernel
theorem dX7_finishBatch_1 : decode cX7_finishBatch 1 = .ok (.getfield 174, 3) := by decide +kernel
theorem dX7_finishBatch_4 : decode cX7_finishBatch 4 = .ok (.astore_n 3, 1) := by decide +kernel
theorem dX7_finishBatch_5 : decode cX7_finishBatch 5 = .ok (.aload_n 1, 1) := by decide +kernel
theorem dX7_finishBatch_6 : decode cX7_finishBatch 6 = .ok (.dup, 1) := by decide +kernel
theorem dX7_finishBatch_7 : decode cX7_finishBatch 7 = .ok (.getfield 223, 3) := by decide +kernel
theorem dX7_finishBatch_10 : decode cX7_finishBatch 10 = .ok (.iconst 1, 1) := by decide +kernel
theorem dX7_finishBatch_11 : decode cX7_finishBatch 11 = .ok (.iadd, 1) := by decide +kernel
theorem dX7_finishBatch_12 : decode cX7_finishBatch 12 = .ok (.putfield 223, 3) := by decide +kernel
theorem dX7_finishBatch_15 : decode cX7_finishBatch 15 = .ok (.aload_n 1, 1) := by decide +kernel
theorem dX7_finishBatch_16 : decode cX7_finishBatch 16 = .ok (.dup, 1) := by decide +kernel
theorem dX7_finishBatch_17 : decode cX7_finishBatch 17 = .ok (.getfield 226, 3) := by decide +kernel
theorem dX7_finishBatch_20 : decode cX7_finishBatch 20 = .ok (.aload_n 3, 1) := by decide +kernel
theorem dX7_finishBatch_21 : decode cX7_finishBatch 21 = .ok (.getfield 122, 3) := by decide +kernel
theorem dX7_finishBatch_24 : decode cX7_finishBatch 24 = .ok (.iadd, 1) := by decide +kernel
theorem dX7_finishBatch_25 : decode cX7_finishBatch 25 = .ok (.putfield 226, 3) := by decide +kernel
theorem dX7_finishBatch_28 : decode cX7_finishBatch 28 = .ok (.aload_n 1, 1) := by decide +kernel
theorem dX7_finishBatch_29 : decode cX7_finishBatch 29 = .ok (.getfield 229, 3) := by decide +kernel
theorem dX7_finishBatch_32 : decode cX7_finishBatch 32 = .ok (.iconst 4, 1) := by decide +kernel
theorem dX7_finishBatch_33 : decode cX7_finishBatch 33 = .ok (.if_icmp .ne 61, 3) := by decide +kernel
theorem dX7_finishBatch_36 : decode cX7_finishBatch 36 = .ok (.iconst 0, 1) := by decide +kernel
theorem dX7_finishBatch_37 : decode cX7_finishBatch 37 = .ok (.istore 4, 2) := by decide +kernel
theorem dX7_finishBatch_39 : decode cX7_finishBatch 39 = .ok (.iload 4, 2) := by decide +kernel
theorem dX7_finishBatch_41 : decode cX7_finishBatch 41 = .ok (.aload_n 3, 1) := by decide +kernel
theorem dX7_finishBatch_42 : decode cX7_finishBatch 42 = .ok (.getfield 122, 3) := by decide +kernel
theorem dX7_finishBatch_45 : decode cX7_finishBatch 45 = .ok (.if_icmp .ge 49, 3) := by decide +kernel
theorem dX7_finishBatch_48 : decode cX7_finishBatch 48 = .ok (.aload_n 1, 1) := by decide +kernel
theorem dX7_finishBatch_49 : decode cX7_finishBatch 49 = .ok (.getfield 232, 3) := by decide +kernel
theorem dX7_finishBatch_52 : decode cX7_finishBatch 52 = .ok (.aload_n 0, 1) := by decide +kernel
theorem dX7_finishBatch_53 : decode cX7_finishBatch 53 = .ok (.getfield 80, 3) := by decide +kernel
theorem dX7_finishBatch_56 : decode cX7_finishBatch 56 = .ok (.aload_n 3, 1) := by decide +kernel
theorem dX7_finishBatch_57 : decode cX7_finishBatch 57 = .ok (.getfield 236, 3) := by decide +kernel
theorem dX7_finishBatch_60 : decode cX7_finishBatch 60 = .ok (.iload 4, 2) := by decide +kernel
theorem dX7_finishBatch_62 : decode cX7_finishBatch 62 = .ok (.iaload, 1) := by decide +kernel
theorem dX7_finishBatch_63 : decode cX7_finishBatch 63 = .ok (.isub, 1) := by decide +kernel
theorem dX7_finishBatch_64 : decode cX7_finishBatch 64 = .ok (.invokevirtual 237, 3) := by decide +kernel
theorem dX7_finishBatch_67 : decode cX7_finishBatch 67 = .ok (.aload_n 0, 1) := by decide +kernel
theorem dX7_finishBatch_68 : decode cX7_finishBatch 68 = .ok (.getfield 25, 3) := by decide +kernel
theorem dX7_finishBatch_71 : decode cX7_finishBatch 71 = .ok (.aload_n 3, 1) := by decide +kernel
theorem dX7_finishBatch_72 : decode cX7_finishBatch 72 = .ok (.getfield 125, 3) := by decide +kernel
theorem dX7_finishBatch_75 : decode cX7_finishBatch 75 = .ok (.iload 4, 2) := by decide +kernel
theorem dX7_finishBatch_77 : decode cX7_finishBatch 77 = .ok (.iaload, 1) := by decide +kernel
theorem dX7_finishBatch_78 : decode cX7_finishBatch 78 = .ok (.aload_n 3, 1) := by decide +kernel
theorem dX7_finishBatch_79 : decode cX7_finishBatch 79 = .ok (.getfield 242, 3) := by decide +kernel
theorem dX7_finishBatch_82 : decode cX7_finishBatch 82 = .ok (.iload 4, 2) := by decide +kernel
theorem dX7_finishBatch_84 : decode cX7_finishBatch 84 = .ok (.iaload, 1) := by decide +kernel
theorem dX7_finishBatch_85 : decode cX7_finishBatch 85 = .ok (.invokevirtual 243, 3) := by decide +kernel
theorem dX7_finishBatch_88 : decode cX7_finishBatch 88 = .ok (.iinc 4 1, 3) := by decide +kernel
theorem dX7_finishBatch_91 : decode cX7_finishBatch 91 = .ok (.goto (-52), 3) := by decide +kernel
theorem dX7_finishBatch_94 : decode cX7_finishBatch 94 = .ok (.aload_n 3, 1) := by decide +kernel
theorem dX7_finishBatch_95 : decode cX7_finishBatch 95 = .ok (.iconst 0, 1) := by decide +kernel
theorem dX7_finishBatch_96 : decode cX7_finishBatch 96 = .ok (.putfield 122, 3) := by decide +kernel
theorem dX7_finishBatch_99 : decode cX7_finishBatch 99 = .ok (.aload_n 2, 1) := by decide +kernel
theorem dX7_finishBatch_100 : decode cX7_finishBatch 100 = .ok (.iconst 0, 1) := by decide +kernel
theorem dX7_finishBatch_101 : decode cX7_finishBatch 101 = .ok (.putfield 190, 3) := by decide +kernel
theorem dX7_finishBatch_104 : decode cX7_finishBatch 104 = .ok (.aload_n 2, 1) := by decide +kernel
theorem dX7_finishBatch_105 : decode cX7_finishBatch 105 = .ok (.getfield 196, 3) := by decide +kernel
theorem dX7_finishBatch_108 : decode cX7_finishBatch 108 = .ok (.invokevirtual 245, 3) := by decide +kernel
theorem dX7_finishBatch_111 : decode cX7_finishBatch 111 = .ok (.return_, 1) := by decide +kernel

theorem dX0_init_0 : decode cX0_init 0 = .ok (.aload_n 0, 1) := by decide +kernel
theorem dX0_init_1 : decode cX0_init 1 = .ok (.invokespecial 1, 3) := by decide +kernel
theorem dX0_init_4 : decode cX0_init 4 = .ok (.aload_n 0, 1) := by decide +kernel
theorem dX0_init_5 : decode cX0_init 5 = .ok (.bipush 64, 2) := by decide +kernel
theorem dX0_init_7 : decode cX0_init 7 = .ok (.newarray .int, 2) := by decide +kernel
theorem dX0_init_9 : decode cX0_init 9 = .ok (.putfield 7, 3) := by decide +kernel
theorem dX0_init_12 : decode cX0_init 12 = .ok (.aload_n 0, 1) := by decide +kernel
theorem dX0_init_13 : decode cX0_init 13 = .ok (.bipush 64, 2) := by decide +kernel
theorem dX0_init_15 : decode cX0_init 15 = .ok (.newarray .int, 2) := by decide +kernel
theorem dX0_init_17 : decode cX0_init 17 = .ok (.putfield 13, 3) := by decide +kernel
theorem dX0_init_20 : decode cX0_init 20 = .ok (.return_, 1) := by decide +kernel
set_option maxRecDepth 20000 in
theorem ggX0_append_J7_copyOf_59c91 : GoodIn wsX0_append wsJ7_copyOf_59c91 := goodIn_r _ [7, 8, 9, 10, 11, 12, 13, 14, 15, 16, 17, 18, 19, 20, 21, 22] (by decide +kernel) (by decide +kernel)
set_option maxRecDepth 20000 in
theorem gX0_append_J7_copyOf_59c91 : GoodIn wsX0_append (va_wsS RX0 20 yJ7_copyOf_59c91 wsJ7_copyOf_59c91) := goodIn_app (goodIn_of _ (by decide +kernel)) ggX0_append_J7_copyOf_59c91
theorem dX0_append_0 : decode cX0_append 0 = .ok (.aload_n 0, 1) := by decide +kernel
theorem dX0_append_1 : decode cX0_append 1 = .ok (.getfield 16, 3) := by decide +kernel
theorem dX0_append_4 : decode cX0_append 4 = .ok (.aload_n 0, 1) := by decide +kernel
theorem dX0_append_5 : decode cX0_append 5 = .ok (.getfield 7, 3) := by decide +kernel
theorem dX0_append_8 : decode cX0_append 8 = .ok (.arraylength, 1) := by decide +kernel
theorem dX0_append_9 : decode cX0_append 9 = .ok (.if_icmp .lt 37, 3) := by decide +kernel
theorem dX0_append_12 : decode cX0_append 12 = .ok (.aload_n 0, 1) := by decide +kernel
theorem dX0_append_13 : decode cX0_append 13 = .ok (.aload_n 0, 1) := by decide +kernel
theorem dX0_append_14 : decode cX0_append 14 = .ok (.getfield 7, 3) := by decide +kernel
theorem dX0_append_17 : decode cX0_append 17 = .ok (.iconst 2, 1) := by decide +kernel
theorem dX0_append_18 : decode cX0_append 18 = .ok (.aload_n 0, 1) := by decide +kernel
theorem dX0_append_19 : decode cX0_append 19 = .ok (.getfield 16, 3) := by decide +kernel
theorem dX0_append_22 : decode cX0_append 22 = .ok (.imul, 1) := by decide +kernel
theorem dX0_append_23 : decode cX0_append 23 = .ok (.invokestatic 20, 3) := by decide +kernel
theorem dX0_append_26 : decode cX0_append 26 = .ok (.putfield 7, 3) := by decide +kernel
theorem dX0_append_29 : decode cX0_append 29 = .ok (.aload_n 0, 1) := by decide +kernel
theorem dX0_append_30 : decode cX0_append 30 = .ok (.aload_n 0, 1) := by decide +kernel
theorem dX0_append_31 : decode cX0_append 31 = .ok (.getfield 13, 3) := by decide +kernel
theorem dX0_append_34 : decode cX0_append 34 = .ok (.iconst 2, 1) := by decide +kernel
theorem dX0_append_35 : decode cX0_append 35 = .ok (.aload_n 0, 1) := by decide +kernel
theorem dX0_append_36 : decode cX0_append 36 = .ok (.getfield 16, 3) := by decide +kernel
theorem dX0_append_39 : decode cX0_append 39 = .ok (.imul, 1) := by decide +kernel
theorem dX0_append_40 : decode cX0_append 40 = .ok (.invokestatic 20, 3) := by decide +kernel
theorem dX0_append_43 : decode cX0_append 43 = .ok (.putfield 13, 3) := by decide +kernel
theorem dX0_append_46 : decode cX0_append 46 = .ok (.aload_n 0, 1) := by decide +kernel
theorem dX0_append_47 : decode cX0_append 47 = .ok (.getfield 7, 3) := by decide +kernel
theorem dX0_append_50 : decode cX0_append 50 = .ok (.aload_n 0, 1) := by decide +kernel
theorem dX0_append_51 : decode cX0_append 51 = .ok (.getfield 16, 3) := by decide +kernel
theorem dX0_append_54 : decode cX0_append 54 = .ok (.iload_n 1, 1) := by decide +kernel
theorem dX0_append_55 : decode cX0_append 55 = .ok (.iastore, 1) := by decide +kernel
theorem dX0_append_56 : decode cX0_append 56 = .ok (.aload_n 0, 1) := by decide +kernel
theorem dX0_append_57 : decode cX0_append 57 = .ok (.getfield 13, 3) := by decide +kernel
theorem dX0_append_60 : decode cX0_append 60 = .ok (.aload_n 0, 1) := by decide +kernel
theorem dX0_append_61 : decode cX0_append 61 = .ok (.getfield 16, 3) := by decide +kernel
theorem dX0_append_64 : decode cX0_append 64 = .ok (.iload_n 2, 1) := by decide +kernel
theorem dX0_append_65 : decode cX0_append 65 = .ok (.iastore, 1) := by decide +kernel
theorem dX0_append_66 : decode cX0_append 66 = .ok (.aload_n 0, 1) := by decide +kernel
theorem dX0_append_67 : decode cX0_append 67 = .ok (.dup, 1) := by decide +kernel
theorem dX0_append_68 : decode cX0_append 68 = .ok (.getfield 16, 3) := by decide +kernel
theorem dX0_append_71 : decode cX0_append 71 = .ok (.iconst 1, 1) := by decide +kernel
theorem dX0_append_72 : decode cX0_append 72 = .ok (.iadd, 1) := by decide +kernel
theorem dX0_append_73 : decode cX0_append 73 = .ok (.putfield 16, 3) := by decide +kernel
theorem dX0_append_76 : decode cX0_append 76 = .ok (.return_, 1) := by decide +kernel
theorem dX1_init_0 : decode cX1_init 0 = .ok (.aload_n 0, 1) := by decide +kernel
theorem dX1_init_1 : decode cX1_init 1 = .ok (.invokespecial 1, 3) := by decide +kernel
theorem dX1_init_4 : decode cX1_init 4 = .ok (.aload_n 0, 1) := by decide +kernel
theorem dX1_init_5 : decode cX1_init 5 = .ok (.iload_n 1, 1) := by decide +kernel
theorem dX1_init_6 : decode cX1_init 6 = .ok (.newarray .int, 2) := by decide +kernel
theorem dX1_init_8 : decode cX1_init 8 = .ok (.putfield 7, 3) := by decide +kernel
theorem dX1_init_11 : decode cX1_init 11 = .ok (.aload_n 0, 1) := by decide +kernel
theorem dX1_init_12 : decode cX1_init 12 = .ok (.iload_n 1, 1) := by decide +kernel
theorem dX1_init_13 : decode cX1_init 13 = .ok (.newarray .int, 2) := by decide +kernel
theorem dX1_init_15 : decode cX1_init 15 = .ok (.putfield 13, 3) := by decide +kernel
theorem dX1_init_18 : decode cX1_init 18 = .ok (.aload_n 0, 1) := by decide +kernel
theorem dX1_init_19 : decode cX1_init 19 = .ok (.iload_n 1, 1) := by decide +kernel
theorem dX1_init_20 : decode cX1_init 20 = .ok (.newarray .int, 2) := by decide +kernel
theorem dX1_init_22 : decode cX1_init 22 = .ok (.putfield 16, 3) := by decide +kernel
theorem dX1_init_25 : decode cX1_init 25 = .ok (.return_, 1) := by decide +kernel
theorem dX1_append_0 : decode cX1_append 0 = .ok (.aload_n 0, 1) := by decide +kernel
theorem dX1_append_1 : decode cX1_append 1 = .ok (.getfield 19, 3) := by decide +kernel
theorem dX1_append_4 : decode cX1_append 4 = .ok (.aload_n 0, 1) := by decide +kernel
theorem dX1_append_5 : decode cX1_append 5 = .ok (.getfield 7, 3) := by decide +kernel
theorem dX1_append_8 : decode cX1_append 8 = .ok (.arraylength, 1) := by decide +kernel
theorem dX1_append_9 : decode cX1_append 9 = .ok (.if_icmp .lt 4, 3) := by decide +kernel
theorem dX1_append_12 : decode cX1_append 12 = .ok (.return_, 1) := by decide +kernel
theorem dX1_append_13 : decode cX1_append 13 = .ok (.aload_n 0, 1) := by decide +kernel
theorem dX1_append_14 : decode cX1_append 14 = .ok (.getfield 7, 3) := by decide +kernel
theorem dX1_append_17 : decode cX1_append 17 = .ok (.aload_n 0, 1) := by decide +kernel
theorem dX1_append_18 : decode cX1_append 18 = .ok (.getfield 19, 3) := by decide +kernel
theorem dX1_append_21 : decode cX1_append 21 = .ok (.iload_n 1, 1) := by decide +kernel
theorem dX1_append_22 : decode cX1_append 22 = .ok (.iastore, 1) := by decide +kernel
theorem dX1_append_23 : decode cX1_append 23 = .ok (.aload_n 0, 1) := by decide +kernel
theorem dX1_append_24 : decode cX1_append 24 = .ok (.getfield 13, 3) := by decide +kernel
theorem dX1_append_27 : decode cX1_append 27 = .ok (.aload_n 0, 1) := by decide +kernel
theorem dX1_append_28 : decode cX1_append 28 = .ok (.getfield 19, 3) := by decide +kernel
theorem dX1_append_31 : decode cX1_append 31 = .ok (.iload_n 2, 1) := by decide +kernel
theorem dX1_append_32 : decode cX1_append 32 = .ok (.iastore, 1) := by decide +kernel
theorem dX1_append_33 : decode cX1_append 33 = .ok (.aload_n 0, 1) := by decide +kernel
theorem dX1_append_34 : decode cX1_append 34 = .ok (.getfield 16, 3) := by decide +kernel
theorem dX1_append_37 : decode cX1_append 37 = .ok (.aload_n 0, 1) := by decide +kernel
theorem dX1_append_38 : decode cX1_append 38 = .ok (.getfield 19, 3) := by decide +kernel
theorem dX1_append_41 : decode cX1_append 41 = .ok (.iload_n 3, 1) := by decide +kernel
theorem dX1_append_42 : decode cX1_append 42 = .ok (.iastore, 1) := by decide +kernel
theorem dX1_append_43 : decode cX1_append 43 = .ok (.aload_n 0, 1) := by decide +kernel
theorem dX1_append_44 : decode cX1_append 44 = .ok (.dup, 1) := by decide +kernel
theorem dX1_append_45 : decode cX1_append 45 = .ok (.getfield 19, 3) := by decide +kernel
theorem dX1_append_48 : decode cX1_append 48 = .ok (.iconst 1, 1) := by decide +kernel
theorem dX1_append_49 : decode cX1_append 49 = .ok (.iadd, 1) := by decide +kernel
theorem dX1_append_50 : decode cX1_append 50 = .ok (.putfield 19, 3) := by decide +kernel
theorem dX1_append_53 : decode cX1_append 53 = .ok (.return_, 1) := by decide +kernel
set_option maxRecDepth 20000 in
theorem ggX1_becomeFirstOf_X1_dropFirst : GoodIn wsX1_becomeFirstOf wsX1_dropFirst := goodIn_r _ [17, 1, 6, 7, 8, 9, 10, 11, 12, 18, 19, 20, 21] (by decide +kernel) (by decide +kernel)
set_option maxRecDepth 20000 in
theorem gX1_becomeFirstOf_X1_dropFirst : GoodIn wsX1_becomeFirstOf (wsV RX1 35 RX1 yX1_dropFirst wsX1_dropFirst) := goodIn_app (goodIn_of _ (by decide +kernel)) ggX1_becomeFirstOf_X1_dropFirst
theorem dX1_becomeFirstOf_0 : decode cX1_becomeFirstOf 0 = .ok (.iload_n 2, 1) := by decide +kernel
theorem dX1_becomeFirstOf_1 : decode cX1_becomeFirstOf 1 = .ok (.aload_n 1, 1) := by decide +kernel
theorem dX1_becomeFirstOf_2 : decode cX1_becomeFirstOf 2 = .ok (.getfield 19, 3) := by decide +kernel
theorem dX1_becomeFirstOf_5 : decode cX1_becomeFirstOf 5 = .ok (.invokestatic 23, 3) := by decide +kernel
theorem dX1_becomeFirstOf_8 : decode cX1_becomeFirstOf 8 = .ok (.aload_n 0, 1) := by decide +kernel
theorem dX1_becomeFirstOf_9 : decode cX1_becomeFirstOf 9 = .ok (.getfield 7, 3) := by decide +kernel
theorem dX1_becomeFirstOf_12 : decode cX1_becomeFirstOf 12 = .ok (.arraylength, 1) := by decide +kernel
theorem dX1_becomeFirstOf_13 : decode cX1_becomeFirstOf 13 = .ok (.invokestatic 23, 3) := by decide +kernel
theorem dX1_becomeFirstOf_16 : decode cX1_becomeFirstOf 16 = .ok (.istore_n 3, 1) := by decide +kernel
theorem dX1_becomeFirstOf_17 : decode cX1_becomeFirstOf 17 = .ok (.aload_n 1, 1) := by decide +kernel
theorem dX1_becomeFirstOf_18 : decode cX1_becomeFirstOf 18 = .ok (.getfield 7, 3) := by decide +kernel
theorem dX1_becomeFirstOf_21 : decode cX1_becomeFirstOf 21 = .ok (.iconst 0, 1) := by decide +kernel
theorem dX1_becomeFirstOf_22 : decode cX1_becomeFirstOf 22 = .ok (.aload_n 0, 1) := by decide +kernel
theorem dX1_becomeFirstOf_23 : decode cX1_becomeFirstOf 23 = .ok (.getfield 7, 3) := by decide +kernel
theorem dX1_becomeFirstOf_26 : decode cX1_becomeFirstOf 26 = .ok (.iconst 0, 1) := by decide +kernel
theorem dX1_becomeFirstOf_27 : decode cX1_becomeFirstOf 27 = .ok (.iload_n 3, 1) := by decide +kernel
theorem dX1_becomeFirstOf_28 : decode cX1_becomeFirstOf 28 = .ok (.invokestatic 29, 3) := by decide +kernel
theorem dX1_becomeFirstOf_31 : decode cX1_becomeFirstOf 31 = .ok (.aload_n 1, 1) := by decide +kernel
theorem dX1_becomeFirstOf_32 : decode cX1_becomeFirstOf 32 = .ok (.getfield 13, 3) := by decide +kernel
theorem dX1_becomeFirstOf_35 : decode cX1_becomeFirstOf 35 = .ok (.iconst 0, 1) := by decide +kernel
theorem dX1_becomeFirstOf_36 : decode cX1_becomeFirstOf 36 = .ok (.aload_n 0, 1) := by decide +kernel
theorem dX1_becomeFirstOf_37 : decode cX1_becomeFirstOf 37 = .ok (.getfield 13, 3) := by decide +kernel
theorem dX1_becomeFirstOf_40 : decode cX1_becomeFirstOf 40 = .ok (.iconst 0, 1) := by decide +kernel
theorem dX1_becomeFirstOf_41 : decode cX1_becomeFirstOf 41 = .ok (.iload_n 3, 1) := by decide +kernel
theorem dX1_becomeFirstOf_42 : decode cX1_becomeFirstOf 42 = .ok (.invokestatic 29, 3) := by decide +kernel
theorem dX1_becomeFirstOf_45 : decode cX1_becomeFirstOf 45 = .ok (.aload_n 1, 1) := by decide +kernel
theorem dX1_becomeFirstOf_46 : decode cX1_becomeFirstOf 46 = .ok (.getfield 16, 3) := by decide +kernel
theorem dX1_becomeFirstOf_49 : decode cX1_becomeFirstOf 49 = .ok (.iconst 0, 1) := by decide +kernel
theorem dX1_becomeFirstOf_50 : decode cX1_becomeFirstOf 50 = .ok (.aload_n 0, 1) := by decide +kernel
theorem dX1_becomeFirstOf_51 : decode cX1_becomeFirstOf 51 = .ok (.getfield 16, 3) := by decide +kernel
theorem dX1_becomeFirstOf_54 : decode cX1_becomeFirstOf 54 = .ok (.iconst 0, 1) := by decide +kernel
theorem dX1_becomeFirstOf_55 : decode cX1_becomeFirstOf 55 = .ok (.iload_n 3, 1) := by decide +kernel
theorem dX1_becomeFirstOf_56 : decode cX1_becomeFirstOf 56 = .ok (.invokestatic 29, 3) := by decide +kernel
theorem dX1_becomeFirstOf_59 : decode cX1_becomeFirstOf 59 = .ok (.aload_n 0, 1) := by decide +kernel
theorem dX1_becomeFirstOf_60 : decode cX1_becomeFirstOf 60 = .ok (.iload_n 3, 1) := by decide +kernel
theorem dX1_becomeFirstOf_61 : decode cX1_becomeFirstOf 61 = .ok (.putfield 19, 3) := by decide +kernel
theorem dX1_becomeFirstOf_64 : decode cX1_becomeFirstOf 64 = .ok (.aload_n 1, 1) := by decide +kernel
theorem dX1_becomeFirstOf_65 : decode cX1_becomeFirstOf 65 = .ok (.iload_n 3, 1) := by decide +kernel
theorem dX1_becomeFirstOf_66 : decode cX1_becomeFirstOf 66 = .ok (.invokevirtual 35, 3) := by decide +kernel
theorem dX1_becomeFirstOf_69 : decode cX1_becomeFirstOf 69 = .ok (.return_, 1) := by decide +kernel
theorem dX1_dropFirst_0 : decode cX1_dropFirst 0 = .ok (.aload_n 0, 1) := by decide +kernel
theorem dX1_dropFirst_1 : decode cX1_dropFirst 1 = .ok (.getfield 19, 3) := by decide +kernel
theorem dX1_dropFirst_4 : decode cX1_dropFirst 4 = .ok (.iload_n 1, 1) := by decide +kernel
theorem dX1_dropFirst_5 : decode cX1_dropFirst 5 = .ok (.isub, 1) := by decide +kernel
theorem dX1_dropFirst_6 : decode cX1_dropFirst 6 = .ok (.istore_n 2, 1) := by decide +kernel
theorem dX1_dropFirst_7 : decode cX1_dropFirst 7 = .ok (.aload_n 0, 1) := by decide +kernel
theorem dX1_dropFirst_8 : decode cX1_dropFirst 8 = .ok (.getfield 7, 3) := by decide +kernel
theorem dX1_dropFirst_11 : decode cX1_dropFirst 11 = .ok (.iload_n 1, 1) := by decide +kernel
theorem dX1_dropFirst_12 : decode cX1_dropFirst 12 = .ok (.aload_n 0, 1) := by decide +kernel
theorem dX1_dropFirst_13 : decode cX1_dropFirst 13 = .ok (.getfield 7, 3) := by decide +kernel
theorem dX1_dropFirst_16 : decode cX1_dropFirst 16 = .ok (.iconst 0, 1) := by decide +kernel
theorem dX1_dropFirst_17 : decode cX1_dropFirst 17 = .ok (.iload_n 2, 1) := by decide +kernel
theorem dX1_dropFirst_18 : decode cX1_dropFirst 18 = .ok (.invokestatic 29, 3) := by decide +kernel
theorem dX1_dropFirst_21 : decode cX1_dropFirst 21 = .ok (.aload_n 0, 1) := by decide +kernel
theorem dX1_dropFirst_22 : decode cX1_dropFirst 22 = .ok (.getfield 13, 3) := by decide +kernel
theorem dX1_dropFirst_25 : decode cX1_dropFirst 25 = .ok (.iload_n 1, 1) := by decide +kernel
theorem dX1_dropFirst_26 : decode cX1_dropFirst 26 = .ok (.aload_n 0, 1) := by decide +kernel
theorem dX1_dropFirst_27 : decode cX1_dropFirst 27 = .ok (.getfield 13, 3) := by decide +kernel
theorem dX1_dropFirst_30 : decode cX1_dropFirst 30 = .ok (.iconst 0, 1) := by decide +kernel
theorem dX1_dropFirst_31 : decode cX1_dropFirst 31 = .ok (.iload_n 2, 1) := by decide +kernel
theorem dX1_dropFirst_32 : decode cX1_dropFirst 32 = .ok (.invokestatic 29, 3) := by decide +kernel
theorem dX1_dropFirst_35 : decode cX1_dropFirst 35 = .ok (.aload_n 0, 1) := by decide +kernel
theorem dX1_dropFirst_36 : decode cX1_dropFirst 36 = .ok (.getfield 16, 3) := by decide +kernel
theorem dX1_dropFirst_39 : decode cX1_dropFirst 39 = .ok (.iload_n 1, 1) := by decide +kernel
theorem dX1_dropFirst_40 : decode cX1_dropFirst 40 = .ok (.aload_n 0, 1) := by decide +kernel
theorem dX1_dropFirst_41 : decode cX1_dropFirst 41 = .ok (.getfield 16, 3) := by decide +kernel
theorem dX1_dropFirst_44 : decode cX1_dropFirst 44 = .ok (.iconst 0, 1) := by decide +kernel
theorem dX1_dropFirst_45 : decode cX1_dropFirst 45 = .ok (.iload_n 2, 1) := by decide +kernel
theorem dX1_dropFirst_46 : decode cX1_dropFirst 46 = .ok (.invokestatic 29, 3) := by decide +kernel
theorem dX1_dropFirst_49 : decode cX1_dropFirst 49 = .ok (.aload_n 0, 1) := by decide +kernel
theorem dX1_dropFirst_50 : decode cX1_dropFirst 50 = .ok (.iload_n 2, 1) := by decide +kernel
theorem dX1_dropFirst_51 : decode cX1_dropFirst 51 = .ok (.putfield 19, 3) := by decide +kernel
theorem dX1_dropFirst_54 : decode cX1_dropFirst 54 = .ok (.return_, 1) := by decide +kernel
theorem dX2_init_0 : decode cX2_init 0 = .ok (.aload_n 0, 1) := by decide +kernel
theorem dX2_init_1 : decode cX2_init 1 = .ok (.invokespecial 3, 3) := by decide +kernel
theorem dX2_init_4 : decode cX2_init 4 = .ok (.aload_n 0, 1) := by decide +kernel
theorem dX2_init_5 : decode cX2_init 5 = .ok (.bipush 16, 2) := by decide +kernel
theorem dX2_init_7 : decode cX2_init 7 = .ok (.anewarray 9, 3) := by decide +kernel
theorem dX2_init_10 : decode cX2_init 10 = .ok (.putfield 11, 3) := by decide +kernel
theorem dX2_init_13 : decode cX2_init 13 = .ok (.aload_n 0, 1) := by decide +kernel
theorem dX2_init_14 : decode cX2_init 14 = .ok (.bipush 16, 2) := by decide +kernel
theorem dX2_init_16 : decode cX2_init 16 = .ok (.newarray .int, 2) := by decide +kernel
theorem dX2_init_18 : decode cX2_init 18 = .ok (.putfield 17, 3) := by decide +kernel
theorem dX2_init_21 : decode cX2_init 21 = .ok (.aload_n 0, 1) := by decide +kernel
theorem dX2_init_22 : decode cX2_init 22 = .ok (.bipush 16, 2) := by decide +kernel
theorem dX2_init_24 : decode cX2_init 24 = .ok (.newarray .int, 2) := by decide +kernel
theorem dX2_init_26 : decode cX2_init 26 = .ok (.putfield 21, 3) := by decide +kernel
theorem dX2_init_29 : decode cX2_init 29 = .ok (.aload_n 0, 1) := by decide +kernel
theorem dX2_init_30 : decode cX2_init 30 = .ok (.iconst (-1), 1) := by decide +kernel
theorem dX2_init_31 : decode cX2_init 31 = .ok (.putfield 24, 3) := by decide +kernel
theorem dX2_init_34 : decode cX2_init 34 = .ok (.return_, 1) := by decide +kernel
theorem dX2_clear_0 : decode cX2_clear 0 = .ok (.aload_n 0, 1) := by decide +kernel
theorem dX2_clear_1 : decode cX2_clear 1 = .ok (.iconst 0, 1) := by decide +kernel
theorem dX2_clear_2 : decode cX2_clear 2 = .ok (.putfield 28, 3) := by decide +kernel
theorem dX2_clear_5 : decode cX2_clear 5 = .ok (.aload_n 0, 1) := by decide +kernel
theorem dX2_clear_6 : decode cX2_clear 6 = .ok (.iconst 0, 1) := by decide +kernel
theorem dX2_clear_7 : decode cX2_clear 7 = .ok (.putfield 31, 3) := by decide +kernel
theorem dX2_clear_10 : decode cX2_clear 10 = .ok (.aload_n 0, 1) := by decide +kernel
theorem dX2_clear_11 : decode cX2_clear 11 = .ok (.iconst (-1), 1) := by decide +kernel
theorem dX2_clear_12 : decode cX2_clear 12 = .ok (.putfield 24, 3) := by decide +kernel
theorem dX2_clear_15 : decode cX2_clear 15 = .ok (.return_, 1) := by decide +kernel
theorem dX2_append_0 : decode cX2_append 0 = .ok (.aload_n 1, 1) := by decide +kernel
theorem dX2_append_1 : decode cX2_append 1 = .ok (.ifnull 15, 3) := by decide +kernel
theorem dX2_append_4 : decode cX2_append 4 = .ok (.aload_n 0, 1) := by decide +kernel
theorem dX2_append_5 : decode cX2_append 5 = .ok (.getfield 28, 3) := by decide +kernel
theorem dX2_append_8 : decode cX2_append 8 = .ok (.aload_n 0, 1) := by decide +kernel
theorem dX2_append_9 : decode cX2_append 9 = .ok (.getfield 11, 3) := by decide +kernel
theorem dX2_append_12 : decode cX2_append 12 = .ok (.arraylength, 1) := by decide +kernel
theorem dX2_append_13 : decode cX2_append 13 = .ok (.if_icmp .lt 4, 3) := by decide +kernel
theorem dX2_append_16 : decode cX2_append 16 = .ok (.return_, 1) := by decide +kernel
theorem dX2_append_17 : decode cX2_append 17 = .ok (.aload_n 0, 1) := by decide +kernel
theorem dX2_append_18 : decode cX2_append 18 = .ok (.getfield 11, 3) := by decide +kernel
theorem dX2_append_21 : decode cX2_append 21 = .ok (.aload_n 0, 1) := by decide +kernel
theorem dX2_append_22 : decode cX2_append 22 = .ok (.getfield 28, 3) := by decide +kernel
theorem dX2_append_25 : decode cX2_append 25 = .ok (.aload_n 1, 1) := by decide +kernel
theorem dX2_append_26 : decode cX2_append 26 = .ok (.aastore, 1) := by decide +kernel
theorem dX2_append_27 : decode cX2_append 27 = .ok (.aload_n 0, 1) := by decide +kernel
theorem dX2_append_28 : decode cX2_append 28 = .ok (.getfield 17, 3) := by decide +kernel
theorem dX2_append_31 : decode cX2_append 31 = .ok (.aload_n 0, 1) := by decide +kernel
theorem dX2_append_32 : decode cX2_append 32 = .ok (.getfield 28, 3) := by decide +kernel
theorem dX2_append_35 : decode cX2_append 35 = .ok (.iload_n 2, 1) := by decide +kernel
theorem dX2_append_36 : decode cX2_append 36 = .ok (.iastore, 1) := by decide +kernel
theorem dX2_append_37 : decode cX2_append 37 = .ok (.aload_n 0, 1) := by decide +kernel
theorem dX2_append_38 : decode cX2_append 38 = .ok (.getfield 21, 3) := by decide +kernel
theorem dX2_append_41 : decode cX2_append 41 = .ok (.aload_n 0, 1) := by decide +kernel
theorem dX2_append_42 : decode cX2_append 42 = .ok (.getfield 28, 3) := by decide +kernel
theorem dX2_append_45 : decode cX2_append 45 = .ok (.iload_n 3, 1) := by decide +kernel
theorem dX2_append_46 : decode cX2_append 46 = .ok (.iastore, 1) := by decide +kernel
theorem dX2_append_47 : decode cX2_append 47 = .ok (.aload_n 0, 1) := by decide +kernel
theorem dX2_append_48 : decode cX2_append 48 = .ok (.dup, 1) := by decide +kernel
theorem dX2_append_49 : decode cX2_append 49 = .ok (.getfield 28, 3) := by decide +kernel
theorem dX2_append_52 : decode cX2_append 52 = .ok (.iconst 1, 1) := by decide +kernel
theorem dX2_append_53 : decode cX2_append 53 = .ok (.iadd, 1) := by decide +kernel
theorem dX2_append_54 : decode cX2_append 54 = .ok (.putfield 28, 3) := by decide +kernel
theorem dX2_append_57 : decode cX2_append 57 = .ok (.return_, 1) := by decide +kernel
set_option maxRecDepth 20000 in
theorem ggX3_init_X5_init : GoodIn wsX3_init wsX5_init := goodIn_r _ [25, 26, 2, 3, 27, 28, 29, 55, 56, 57] (by decide +kernel) (by decide +kernel)
set_option maxRecDepth 20000 in
theorem gX3_init_X5_init_n11 : GoodIn wsX3_init (wsX5_init) := ggX3_init_X5_init
set_option maxRecDepth 20000 in
theorem ggX3_init_X1_init : GoodIn wsX3_init wsX1_init := goodIn_r _ [32, 33, 2, 3, 27, 34, 35, 36, 77, 78, 79, 80] (by decide +kernel) (by decide +kernel)
set_option maxRecDepth 20000 in
theorem gX3_init_X1_init : GoodIn wsX3_init (wsX1_init) := ggX3_init_X1_init
set_option maxRecDepth 20000 in
theorem ggX3_init_X6_init : GoodIn wsX3_init wsX6_init := goodIn_r _ [38, 39, 2, 3, 40, 17, 18, 41, 42, 43, 44, 45, 46, 31, 32, 33, 27, 34, 35, 36, 47, 48, 49, 50, 51, 52, 53, 54, 77, 78, 79, 80, 81, 82, 83, 84, 85, 86, 87, 88, 89, 90, 91] (by decide +kernel) (by decide +kernel)
set_option maxRecDepth 20000 in
theorem gX3_init_X6_init_n58 : GoodIn wsX3_init (wsX6_init) := ggX3_init_X6_init
theorem dX3_init_0 : decode cX3_init 0 = .ok (.aload_n 0, 1) := by decide +kernel
theorem dX3_init_1 : decode cX3_init 1 = .ok (.invokespecial 3, 3) := by decide +kernel
theorem dX3_init_4 : decode cX3_init 4 = .ok (.aload_n 0, 1) := by decide +kernel
theorem dX3_init_5 : decode cX3_init 5 = .ok (.new 9, 3) := by decide +kernel
theorem dX3_init_8 : decode cX3_init 8 = .ok (.dup, 1) := by decide +kernel
theorem dX3_init_9 : decode cX3_init 9 = .ok (.invokespecial 11, 3) := by decide +kernel
theorem dX3_init_12 : decode cX3_init 12 = .ok (.putfield 12, 3) := by decide +kernel
theorem dX3_init_15 : decode cX3_init 15 = .ok (.aload_n 0, 1) := by decide +kernel
theorem dX3_init_16 : decode cX3_init 16 = .ok (.bipush 100, 2) := by decide +kernel
theorem dX3_init_18 : decode cX3_init 18 = .ok (.putfield 18, 3) := by decide +kernel
theorem dX3_init_21 : decode cX3_init 21 = .ok (.aload_n 0, 1) := by decide +kernel
theorem dX3_init_22 : decode cX3_init 22 = .ok (.bipush 100, 2) := by decide +kernel
theorem dX3_init_24 : decode cX3_init 24 = .ok (.putfield 22, 3) := by decide +kernel
theorem dX3_init_27 : decode cX3_init 27 = .ok (.aload_n 0, 1) := by decide +kernel
theorem dX3_init_28 : decode cX3_init 28 = .ok (.bipush 100, 2) := by decide +kernel
theorem dX3_init_30 : decode cX3_init 30 = .ok (.putfield 25, 3) := by decide +kernel
theorem dX3_init_33 : decode cX3_init 33 = .ok (.aload_n 0, 1) := by decide +kernel
theorem dX3_init_34 : decode cX3_init 34 = .ok (.iconst 1, 1) := by decide +kernel
theorem dX3_init_35 : decode cX3_init 35 = .ok (.putfield 28, 3) := by decide +kernel
theorem dX3_init_38 : decode cX3_init 38 = .ok (.aload_n 0, 1) := by decide +kernel
theorem dX3_init_39 : decode cX3_init 39 = .ok (.iconst 1, 1) := by decide +kernel
theorem dX3_init_40 : decode cX3_init 40 = .ok (.putfield 31, 3) := by decide +kernel
theorem dX3_init_43 : decode cX3_init 43 = .ok (.aload_n 0, 1) := by decide +kernel
theorem dX3_init_44 : decode cX3_init 44 = .ok (.iload_n 1, 1) := by decide +kernel
theorem dX3_init_45 : decode cX3_init 45 = .ok (.putfield 34, 3) := by decide +kernel
theorem dX3_init_48 : decode cX3_init 48 = .ok (.aload_n 0, 1) := by decide +kernel
theorem dX3_init_49 : decode cX3_init 49 = .ok (.iload_n 2, 1) := by decide +kernel
theorem dX3_init_50 : decode cX3_init 50 = .ok (.putfield 37, 3) := by decide +kernel
theorem dX3_init_53 : decode cX3_init 53 = .ok (.aload_n 0, 1) := by decide +kernel
theorem dX3_init_54 : decode cX3_init 54 = .ok (.iload 4, 2) := by decide +kernel
theorem dX3_init_56 : decode cX3_init 56 = .ok (.putfield 40, 3) := by decide +kernel
theorem dX3_init_59 : decode cX3_init 59 = .ok (.aload_n 0, 1) := by decide +kernel
theorem dX3_init_60 : decode cX3_init 60 = .ok (.new 43, 3) := by decide +kernel
theorem dX3_init_63 : decode cX3_init 63 = .ok (.dup, 1) := by decide +kernel
theorem dX3_init_64 : decode cX3_init 64 = .ok (.iload_n 2, 1) := by decide +kernel
theorem dX3_init_65 : decode cX3_init 65 = .ok (.invokespecial 45, 3) := by decide +kernel
theorem dX3_init_68 : decode cX3_init 68 = .ok (.putfield 48, 3) := by decide +kernel
theorem dX3_init_71 : decode cX3_init 71 = .ok (.aload_n 0, 1) := by decide +kernel
theorem dX3_init_72 : decode cX3_init 72 = .ok (.iload_n 3, 1) := by decide +kernel
theorem dX3_init_73 : decode cX3_init 73 = .ok (.anewarray 52, 3) := by decide +kernel
theorem dX3_init_76 : decode cX3_init 76 = .ok (.putfield 54, 3) := by decide +kernel
theorem dX3_init_79 : decode cX3_init 79 = .ok (.iconst 0, 1) := by decide +kernel
theorem dX3_init_80 : decode cX3_init 80 = .ok (.istore 5, 2) := by decide +kernel
theorem dX3_init_82 : decode cX3_init 82 = .ok (.iload 5, 2) := by decide +kernel
theorem dX3_init_84 : decode cX3_init 84 = .ok (.iload_n 3, 1) := by decide +kernel
theorem dX3_init_85 : decode cX3_init 85 = .ok (.if_icmp .ge 23, 3) := by decide +kernel
theorem dX3_init_88 : decode cX3_init 88 = .ok (.aload_n 0, 1) := by decide +kernel
theorem dX3_init_89 : decode cX3_init 89 = .ok (.getfield 54, 3) := by decide +kernel
theorem dX3_init_92 : decode cX3_init 92 = .ok (.iload 5, 2) := by decide +kernel
theorem dX3_init_94 : decode cX3_init 94 = .ok (.new 52, 3) := by decide +kernel
theorem dX3_init_97 : decode cX3_init 97 = .ok (.dup, 1) := by decide +kernel
theorem dX3_init_98 : decode cX3_init 98 = .ok (.invokespecial 58, 3) := by decide +kernel
theorem dX3_init_101 : decode cX3_init 101 = .ok (.aastore, 1) := by decide +kernel
theorem dX3_init_102 : decode cX3_init 102 = .ok (.iinc 5 1, 3) := by decide +kernel
theorem dX3_init_105 : decode cX3_init 105 = .ok (.goto (-23), 3) := by decide +kernel
theorem dX3_init_108 : decode cX3_init 108 = .ok (.return_, 1) := by decide +kernel
theorem dX3_freePlaces_0 : decode cX3_freePlaces 0 = .ok (.aload_n 0, 1) := by decide +kernel
theorem dX3_freePlaces_1 : decode cX3_freePlaces 1 = .ok (.getfield 37, 3) := by decide +kernel
theorem dX3_freePlaces_4 : decode cX3_freePlaces 4 = .ok (.aload_n 0, 1) := by decide +kernel
theorem dX3_freePlaces_5 : decode cX3_freePlaces 5 = .ok (.getfield 48, 3) := by decide +kernel
theorem dX3_freePlaces_8 : decode cX3_freePlaces 8 = .ok (.getfield 59, 3) := by decide +kernel
theorem dX3_freePlaces_11 : decode cX3_freePlaces 11 = .ok (.isub, 1) := by decide +kernel
theorem dX3_freePlaces_12 : decode cX3_freePlaces 12 = .ok (.aload_n 0, 1) := by decide +kernel
theorem dX3_freePlaces_13 : decode cX3_freePlaces 13 = .ok (.getfield 62, 3) := by decide +kernel
theorem dX3_freePlaces_16 : decode cX3_freePlaces 16 = .ok (.isub, 1) := by decide +kernel
theorem dX3_freePlaces_17 : decode cX3_freePlaces 17 = .ok (.ireturn, 1) := by decide +kernel
set_option maxRecDepth 20000 in
theorem ggX3_ask_X3_freePlaces : GoodIn wsX3_ask wsX3_freePlaces := goodIn_r _ [8, 9, 10, 11, 12, 13, 14, 15, 16, 17, 18, 19, 20, 21, 22, 23, 24, 25, 26, 27, 28, 29, 30, 31, 32, 33, 34, 35] (by decide +kernel) (by decide +kernel)
set_option maxRecDepth 20000 in
theorem gX3_ask_X3_freePlaces : GoodIn wsX3_ask (wsV RX3 69 RX3 yX3_freePlaces wsX3_freePlaces) := goodIn_app (goodIn_of _ (by decide +kernel)) ggX3_ask_X3_freePlaces
theorem dX3_ask_0 : decode cX3_ask 0 = .ok (.iconst 0, 1) := by decide +kernel
theorem dX3_ask_1 : decode cX3_ask 1 = .ok (.istore_n 1, 1) := by decide +kernel
theorem dX3_ask_2 : decode cX3_ask 2 = .ok (.aload_n 0, 1) := by decide +kernel
theorem dX3_ask_3 : decode cX3_ask 3 = .ok (.getfield 65, 3) := by decide +kernel
theorem dX3_ask_6 : decode cX3_ask 6 = .ok (.ifCond .eq 9, 3) := by decide +kernel
theorem dX3_ask_9 : decode cX3_ask 9 = .ok (.bipush (-3), 2) := by decide +kernel
theorem dX3_ask_11 : decode cX3_ask 11 = .ok (.istore_n 1, 1) := by decide +kernel
theorem dX3_ask_12 : decode cX3_ask 12 = .ok (.goto 26, 3) := by decide +kernel
theorem dX3_ask_15 : decode cX3_ask 15 = .ok (.aload_n 0, 1) := by decide +kernel
theorem dX3_ask_16 : decode cX3_ask 16 = .ok (.invokevirtual 69, 3) := by decide +kernel
theorem dX3_ask_19 : decode cX3_ask 19 = .ok (.ifCond .gt 9, 3) := by decide +kernel
theorem dX3_ask_22 : decode cX3_ask 22 = .ok (.bipush (-2), 2) := by decide +kernel
theorem dX3_ask_24 : decode cX3_ask 24 = .ok (.istore_n 1, 1) := by decide +kernel
theorem dX3_ask_25 : decode cX3_ask 25 = .ok (.goto 13, 3) := by decide +kernel
theorem dX3_ask_28 : decode cX3_ask 28 = .ok (.aload_n 0, 1) := by decide +kernel
theorem dX3_ask_29 : decode cX3_ask 29 = .ok (.getfield 25, 3) := by decide +kernel
theorem dX3_ask_32 : decode cX3_ask 32 = .ok (.ifCond .gt 6, 3) := by decide +kernel
theorem dX3_ask_35 : decode cX3_ask 35 = .ok (.bipush (-4), 2) := by decide +kernel
theorem dX3_ask_37 : decode cX3_ask 37 = .ok (.istore_n 1, 1) := by decide +kernel
theorem dX3_ask_38 : decode cX3_ask 38 = .ok (.iload_n 1, 1) := by decide +kernel
theorem dX3_ask_39 : decode cX3_ask 39 = .ok (.ifCond .eq 13, 3) := by decide +kernel
theorem dX3_ask_42 : decode cX3_ask 42 = .ok (.aload_n 0, 1) := by decide +kernel
theorem dX3_ask_43 : decode cX3_ask 43 = .ok (.dup, 1) := by decide +kernel
theorem dX3_ask_44 : decode cX3_ask 44 = .ok (.getfield 73, 3) := by decide +kernel
theorem dX3_ask_47 : decode cX3_ask 47 = .ok (.iconst 1, 1) := by decide +kernel
theorem dX3_ask_48 : decode cX3_ask 48 = .ok (.iadd, 1) := by decide +kernel
theorem dX3_ask_49 : decode cX3_ask 49 = .ok (.putfield 73, 3) := by decide +kernel
theorem dX3_ask_52 : decode cX3_ask 52 = .ok (.iload_n 1, 1) := by decide +kernel
theorem dX3_ask_53 : decode cX3_ask 53 = .ok (.ireturn, 1) := by decide +kernel
set_option maxRecDepth 20000 in
theorem ggX3_take_X1_append : GoodIn wsX3_take wsX1_append := goodIn_r _ [7, 8, 9, 10, 11, 31, 32, 33, 34] (by decide +kernel) (by decide +kernel)
set_option maxRecDepth 20000 in
theorem gX3_take_X1_append : GoodIn wsX3_take (wsV RX3 76 RX1 yX1_append wsX1_append) := goodIn_app (goodIn_of _ (by decide +kernel)) ggX3_take_X1_append
theorem dX3_take_0 : decode cX3_take 0 = .ok (.aload_n 0, 1) := by decide +kernel
theorem dX3_take_1 : decode cX3_take 1 = .ok (.getfield 48, 3) := by decide +kernel
theorem dX3_take_4 : decode cX3_take 4 = .ok (.iload_n 1, 1) := by decide +kernel
theorem dX3_take_5 : decode cX3_take 5 = .ok (.iload_n 2, 1) := by decide +kernel
theorem dX3_take_6 : decode cX3_take 6 = .ok (.iload_n 3, 1) := by decide +kernel
theorem dX3_take_7 : decode cX3_take 7 = .ok (.invokevirtual 76, 3) := by decide +kernel
theorem dX3_take_10 : decode cX3_take 10 = .ok (.aload_n 0, 1) := by decide +kernel
theorem dX3_take_11 : decode cX3_take 11 = .ok (.dup, 1) := by decide +kernel
theorem dX3_take_12 : decode cX3_take 12 = .ok (.getfield 25, 3) := by decide +kernel
theorem dX3_take_15 : decode cX3_take 15 = .ok (.iconst 1, 1) := by decide +kernel
theorem dX3_take_16 : decode cX3_take 16 = .ok (.isub, 1) := by decide +kernel
theorem dX3_take_17 : decode cX3_take 17 = .ok (.putfield 25, 3) := by decide +kernel
theorem dX3_take_20 : decode cX3_take 20 = .ok (.return_, 1) := by decide +kernel
theorem dX3_growTokens_0 : decode cX3_growTokens 0 = .ok (.aload_n 0, 1) := by decide +kernel
theorem dX3_growTokens_1 : decode cX3_growTokens 1 = .ok (.aload_n 0, 1) := by decide +kernel
theorem dX3_growTokens_2 : decode cX3_growTokens 2 = .ok (.getfield 25, 3) := by decide +kernel
theorem dX3_growTokens_5 : decode cX3_growTokens 5 = .ok (.aload_n 0, 1) := by decide +kernel
theorem dX3_growTokens_6 : decode cX3_growTokens 6 = .ok (.getfield 18, 3) := by decide +kernel
theorem dX3_growTokens_9 : decode cX3_growTokens 9 = .ok (.iadd, 1) := by decide +kernel
theorem dX3_growTokens_10 : decode cX3_growTokens 10 = .ok (.aload_n 0, 1) := by decide +kernel
theorem dX3_growTokens_11 : decode cX3_growTokens 11 = .ok (.getfield 22, 3) := by decide +kernel
theorem dX3_growTokens_14 : decode cX3_growTokens 14 = .ok (.invokestatic 80, 3) := by decide +kernel
theorem dX3_growTokens_17 : decode cX3_growTokens 17 = .ok (.putfield 25, 3) := by decide +kernel
theorem dX3_growTokens_20 : decode cX3_growTokens 20 = .ok (.return_, 1) := by decide +kernel
set_option maxRecDepth 20000 in
theorem ggX3_startBatch_X1_becomeFirstOf : GoodIn wsX3_startBatch wsX1_becomeFirstOf := goodIn_r _ [11, 12, 13, 14, 15, 16, 17, 18, 19, 20, 21, 22, 23, 24, 25, 26, 10, 27, 52, 53, 54, 55] (by decide +kernel) (by decide +kernel)
set_option maxRecDepth 20000 in
theorem gX3_startBatch_X1_becomeFirstOf : GoodIn wsX3_startBatch (wsV RX3 89 RX1 yX1_becomeFirstOf wsX1_becomeFirstOf) := goodIn_app (goodIn_of _ (by decide +kernel)) ggX3_startBatch_X1_becomeFirstOf
theorem dX3_startBatch_0 : decode cX3_startBatch 0 = .ok (.aload_n 1, 1) := by decide +kernel
theorem dX3_startBatch_1 : decode cX3_startBatch 1 = .ok (.getfield 86, 3) := by decide +kernel
theorem dX3_startBatch_4 : decode cX3_startBatch 4 = .ok (.aload_n 0, 1) := by decide +kernel
theorem dX3_startBatch_5 : decode cX3_startBatch 5 = .ok (.getfield 48, 3) := by decide +kernel
theorem dX3_startBatch_8 : decode cX3_startBatch 8 = .ok (.aload_n 0, 1) := by decide +kernel
theorem dX3_startBatch_9 : decode cX3_startBatch 9 = .ok (.getfield 31, 3) := by decide +kernel
theorem dX3_startBatch_12 : decode cX3_startBatch 12 = .ok (.invokevirtual 89, 3) := by decide +kernel
theorem dX3_startBatch_15 : decode cX3_startBatch 15 = .ok (.aload_n 1, 1) := by decide +kernel
theorem dX3_startBatch_16 : decode cX3_startBatch 16 = .ok (.aload_n 0, 1) := by decide +kernel
theorem dX3_startBatch_17 : decode cX3_startBatch 17 = .ok (.getfield 40, 3) := by decide +kernel
theorem dX3_startBatch_20 : decode cX3_startBatch 20 = .ok (.aload_n 1, 1) := by decide +kernel
theorem dX3_startBatch_21 : decode cX3_startBatch 21 = .ok (.getfield 86, 3) := by decide +kernel
theorem dX3_startBatch_24 : decode cX3_startBatch 24 = .ok (.getfield 59, 3) := by decide +kernel
theorem dX3_startBatch_27 : decode cX3_startBatch 27 = .ok (.imul, 1) := by decide +kernel
theorem dX3_startBatch_28 : decode cX3_startBatch 28 = .ok (.putfield 93, 3) := by decide +kernel
theorem dX3_startBatch_31 : decode cX3_startBatch 31 = .ok (.return_, 1) := by decide +kernel
set_option maxRecDepth 20000 in
theorem ggX3_collectGifts_X3_collectSum : GoodIn wsX3_collectGifts wsX3_collectSum := goodIn_r _ [11, 2, 3, 4, 6, 12, 5, 13, 14, 15, 16, 17, 18, 19, 20, 21, 46, 47, 48, 49, 50, 51, 52, 53, 54, 27, 28, 29, 30, 31, 32, 33, 34, 35, 36, 37, 38, 39, 40, 41, 42, 43, 44, 45, 55, 56, 57, 58, 59, 60] (by decide +kernel) (by decide +kernel)
set_option maxRecDepth 20000 in
theorem gX3_collectGifts_X3_collectSum : GoodIn wsX3_collectGifts (wsV RX3 96 RX3 yX3_collectSum wsX3_collectSum) := goodIn_app (goodIn_of _ (by decide +kernel)) ggX3_collectGifts_X3_collectSum
set_option maxRecDepth 20000 in
theorem ggX3_collectGifts_X3_collectFrom : GoodIn wsX3_collectGifts wsX3_collectFrom := goodIn_r _ [25, 1, 12, 26, 13, 14, 15, 16, 17, 18, 19, 20, 21, 27, 28, 29, 30, 31, 32, 33, 34, 35, 36, 37, 38, 39, 40, 41, 42, 43, 44, 45, 55, 56, 57, 58, 59, 60] (by decide +kernel) (by decide +kernel)
set_option maxRecDepth 20000 in
theorem gX3_collectGifts_X3_collectFrom : GoodIn wsX3_collectGifts (wsV RX3 111 RX3 yX3_collectFrom wsX3_collectFrom) := goodIn_app (goodIn_of _ (by decide +kernel)) ggX3_collectGifts_X3_collectFrom
theorem dX3_collectGifts_0 : decode cX3_collectGifts 0 = .ok (.aload_n 0, 1) := by decide +kernel
theorem dX3_collectGifts_1 : decode cX3_collectGifts 1 = .ok (.getfield 34, 3) := by decide +kernel
theorem dX3_collectGifts_4 : decode cX3_collectGifts 4 = .ok (.iconst 3, 1) := by decide +kernel
theorem dX3_collectGifts_5 : decode cX3_collectGifts 5 = .ok (.if_icmp .ne 9, 3) := by decide +kernel
theorem dX3_collectGifts_8 : decode cX3_collectGifts 8 = .ok (.aload_n 0, 1) := by decide +kernel
theorem dX3_collectGifts_9 : decode cX3_collectGifts 9 = .ok (.aload_n 1, 1) := by decide +kernel
theorem dX3_collectGifts_10 : decode cX3_collectGifts 10 = .ok (.invokevirtual 96, 3) := by decide +kernel
theorem dX3_collectGifts_13 : decode cX3_collectGifts 13 = .ok (.return_, 1) := by decide +kernel
theorem dX3_collectGifts_14 : decode cX3_collectGifts 14 = .ok (.iconst 0, 1) := by decide +kernel
theorem dX3_collectGifts_15 : decode cX3_collectGifts 15 = .ok (.istore_n 2, 1) := by decide +kernel
theorem dX3_collectGifts_16 : decode cX3_collectGifts 16 = .ok (.iload_n 2, 1) := by decide +kernel
theorem dX3_collectGifts_17 : decode cX3_collectGifts 17 = .ok (.aload_n 1, 1) := by decide +kernel
theorem dX3_collectGifts_18 : decode cX3_collectGifts 18 = .ok (.getfield 86, 3) := by decide +kernel
theorem dX3_collectGifts_21 : decode cX3_collectGifts 21 = .ok (.getfield 59, 3) := by decide +kernel
theorem dX3_collectGifts_24 : decode cX3_collectGifts 24 = .ok (.if_icmp .ge 35, 3) := by decide +kernel
theorem dX3_collectGifts_27 : decode cX3_collectGifts 27 = .ok (.aload_n 0, 1) := by decide +kernel
theorem dX3_collectGifts_28 : decode cX3_collectGifts 28 = .ok (.aload_n 1, 1) := by decide +kernel
theorem dX3_collectGifts_29 : decode cX3_collectGifts 29 = .ok (.getfield 86, 3) := by decide +kernel
theorem dX3_collectGifts_32 : decode cX3_collectGifts 32 = .ok (.getfield 100, 3) := by decide +kernel
theorem dX3_collectGifts_35 : decode cX3_collectGifts 35 = .ok (.iload_n 2, 1) := by decide +kernel
theorem dX3_collectGifts_36 : decode cX3_collectGifts 36 = .ok (.iaload, 1) := by decide +kernel
theorem dX3_collectGifts_37 : decode cX3_collectGifts 37 = .ok (.aload_n 1, 1) := by decide +kernel
theorem dX3_collectGifts_38 : decode cX3_collectGifts 38 = .ok (.getfield 86, 3) := by decide +kernel
theorem dX3_collectGifts_41 : decode cX3_collectGifts 41 = .ok (.getfield 104, 3) := by decide +kernel
theorem dX3_collectGifts_44 : decode cX3_collectGifts 44 = .ok (.iload_n 2, 1) := by decide +kernel
theorem dX3_collectGifts_45 : decode cX3_collectGifts 45 = .ok (.iaload, 1) := by decide +kernel
theorem dX3_collectGifts_46 : decode cX3_collectGifts 46 = .ok (.aload_n 1, 1) := by decide +kernel
theorem dX3_collectGifts_47 : decode cX3_collectGifts 47 = .ok (.getfield 107, 3) := by decide +kernel
theorem dX3_collectGifts_50 : decode cX3_collectGifts 50 = .ok (.invokevirtual 111, 3) := by decide +kernel
theorem dX3_collectGifts_53 : decode cX3_collectGifts 53 = .ok (.iinc 2 1, 3) := by decide +kernel
theorem dX3_collectGifts_56 : decode cX3_collectGifts 56 = .ok (.goto (-40), 3) := by decide +kernel
theorem dX3_collectGifts_59 : decode cX3_collectGifts 59 = .ok (.return_, 1) := by decide +kernel
set_option maxRecDepth 20000 in
theorem ggX3_collectSum_X2_append : GoodIn wsX3_collectSum wsX2_append := goodIn_r _ [11, 12, 13, 14, 15, 44, 45, 46, 47, 48, 49] (by decide +kernel) (by decide +kernel)
set_option maxRecDepth 20000 in
theorem gX3_collectSum_X2_append : GoodIn wsX3_collectSum (wsV RX3 119 RX2 yX2_append wsX2_append) := goodIn_app (goodIn_of _ (by decide +kernel)) ggX3_collectSum_X2_append
theorem dX3_collectSum_0 : decode cX3_collectSum 0 = .ok (.iconst 0, 1) := by decide +kernel
theorem dX3_collectSum_1 : decode cX3_collectSum 1 = .ok (.istore_n 2, 1) := by decide +kernel
theorem dX3_collectSum_2 : decode cX3_collectSum 2 = .ok (.iconst 0, 1) := by decide +kernel
theorem dX3_collectSum_3 : decode cX3_collectSum 3 = .ok (.istore_n 3, 1) := by decide +kernel
theorem dX3_collectSum_4 : decode cX3_collectSum 4 = .ok (.iload_n 3, 1) := by decide +kernel
theorem dX3_collectSum_5 : decode cX3_collectSum 5 = .ok (.aload_n 1, 1) := by decide +kernel
theorem dX3_collectSum_6 : decode cX3_collectSum 6 = .ok (.getfield 86, 3) := by decide +kernel
theorem dX3_collectSum_9 : decode cX3_collectSum 9 = .ok (.getfield 59, 3) := by decide +kernel
theorem dX3_collectSum_12 : decode cX3_collectSum 12 = .ok (.if_icmp .ge 21, 3) := by decide +kernel
theorem dX3_collectSum_15 : decode cX3_collectSum 15 = .ok (.iload_n 2, 1) := by decide +kernel
theorem dX3_collectSum_16 : decode cX3_collectSum 16 = .ok (.aload_n 1, 1) := by decide +kernel
theorem dX3_collectSum_17 : decode cX3_collectSum 17 = .ok (.getfield 86, 3) := by decide +kernel
theorem dX3_collectSum_20 : decode cX3_collectSum 20 = .ok (.getfield 100, 3) := by decide +kernel
theorem dX3_collectSum_23 : decode cX3_collectSum 23 = .ok (.iload_n 3, 1) := by decide +kernel
theorem dX3_collectSum_24 : decode cX3_collectSum 24 = .ok (.iaload, 1) := by decide +kernel
theorem dX3_collectSum_25 : decode cX3_collectSum 25 = .ok (.iadd, 1) := by decide +kernel
theorem dX3_collectSum_26 : decode cX3_collectSum 26 = .ok (.istore_n 2, 1) := by decide +kernel
theorem dX3_collectSum_27 : decode cX3_collectSum 27 = .ok (.iinc 3 1, 3) := by decide +kernel
theorem dX3_collectSum_30 : decode cX3_collectSum 30 = .ok (.goto (-26), 3) := by decide +kernel
theorem dX3_collectSum_33 : decode cX3_collectSum 33 = .ok (.aload_n 1, 1) := by decide +kernel
theorem dX3_collectSum_34 : decode cX3_collectSum 34 = .ok (.getfield 107, 3) := by decide +kernel
theorem dX3_collectSum_37 : decode cX3_collectSum 37 = .ok (.aload_n 0, 1) := by decide +kernel
theorem dX3_collectSum_38 : decode cX3_collectSum 38 = .ok (.getfield 115, 3) := by decide +kernel
theorem dX3_collectSum_41 : decode cX3_collectSum 41 = .ok (.iload_n 2, 1) := by decide +kernel
theorem dX3_collectSum_42 : decode cX3_collectSum 42 = .ok (.aload_n 1, 1) := by decide +kernel
theorem dX3_collectSum_43 : decode cX3_collectSum 43 = .ok (.getfield 86, 3) := by decide +kernel
theorem dX3_collectSum_46 : decode cX3_collectSum 46 = .ok (.getfield 104, 3) := by decide +kernel
theorem dX3_collectSum_49 : decode cX3_collectSum 49 = .ok (.iconst 0, 1) := by decide +kernel
theorem dX3_collectSum_50 : decode cX3_collectSum 50 = .ok (.iaload, 1) := by decide +kernel
theorem dX3_collectSum_51 : decode cX3_collectSum 51 = .ok (.invokevirtual 119, 3) := by decide +kernel
theorem dX3_collectSum_54 : decode cX3_collectSum 54 = .ok (.return_, 1) := by decide +kernel
set_option maxRecDepth 20000 in
theorem ggX3_collectFrom_X2_append : GoodIn wsX3_collectFrom wsX2_append := goodIn_r _ [8, 9, 10, 11, 12, 32, 33, 34, 35, 36, 37] (by decide +kernel) (by decide +kernel)
set_option maxRecDepth 20000 in
theorem gX3_collectFrom_X2_append : GoodIn wsX3_collectFrom (wsV RX3 119 RX2 yX2_append wsX2_append) := goodIn_app (goodIn_of _ (by decide +kernel)) ggX3_collectFrom_X2_append
theorem dX3_collectFrom_0 : decode cX3_collectFrom 0 = .ok (.aload_n 0, 1) := by decide +kernel
theorem dX3_collectFrom_1 : decode cX3_collectFrom 1 = .ok (.getfield 34, 3) := by decide +kernel
theorem dX3_collectFrom_4 : decode cX3_collectFrom 4 = .ok (.tableswitch 90 0 2 #[28, 41, 64], 28) := by decide +kernel
theorem dX3_collectFrom_32 : decode cX3_collectFrom 32 = .ok (.aload_n 3, 1) := by decide +kernel
theorem dX3_collectFrom_33 : decode cX3_collectFrom 33 = .ok (.aload_n 0, 1) := by decide +kernel
theorem dX3_collectFrom_34 : decode cX3_collectFrom 34 = .ok (.getfield 115, 3) := by decide +kernel
theorem dX3_collectFrom_37 : decode cX3_collectFrom 37 = .ok (.iload_n 1, 1) := by decide +kernel
theorem dX3_collectFrom_38 : decode cX3_collectFrom 38 = .ok (.iload_n 2, 1) := by decide +kernel
theorem dX3_collectFrom_39 : decode cX3_collectFrom 39 = .ok (.invokevirtual 119, 3) := by decide +kernel
theorem dX3_collectFrom_42 : decode cX3_collectFrom 42 = .ok (.goto 52, 3) := by decide +kernel
theorem dX3_collectFrom_45 : decode cX3_collectFrom 45 = .ok (.aload_n 3, 1) := by decide +kernel
theorem dX3_collectFrom_46 : decode cX3_collectFrom 46 = .ok (.aload_n 0, 1) := by decide +kernel
theorem dX3_collectFrom_47 : decode cX3_collectFrom 47 = .ok (.getfield 115, 3) := by decide +kernel
theorem dX3_collectFrom_50 : decode cX3_collectFrom 50 = .ok (.iload_n 1, 1) := by decide +kernel
theorem dX3_collectFrom_51 : decode cX3_collectFrom 51 = .ok (.iload_n 2, 1) := by decide +kernel
theorem dX3_collectFrom_52 : decode cX3_collectFrom 52 = .ok (.invokevirtual 119, 3) := by decide +kernel
theorem dX3_collectFrom_55 : decode cX3_collectFrom 55 = .ok (.aload_n 3, 1) := by decide +kernel
theorem dX3_collectFrom_56 : decode cX3_collectFrom 56 = .ok (.aload_n 0, 1) := by decide +kernel
theorem dX3_collectFrom_57 : decode cX3_collectFrom 57 = .ok (.getfield 124, 3) := by decide +kernel
theorem dX3_collectFrom_60 : decode cX3_collectFrom 60 = .ok (.iload_n 1, 1) := by decide +kernel
theorem dX3_collectFrom_61 : decode cX3_collectFrom 61 = .ok (.iload_n 2, 1) := by decide +kernel
theorem dX3_collectFrom_62 : decode cX3_collectFrom 62 = .ok (.invokevirtual 119, 3) := by decide +kernel
theorem dX3_collectFrom_65 : decode cX3_collectFrom 65 = .ok (.goto 29, 3) := by decide +kernel
theorem dX3_collectFrom_68 : decode cX3_collectFrom 68 = .ok (.aload_n 3, 1) := by decide +kernel
theorem dX3_collectFrom_69 : decode cX3_collectFrom 69 = .ok (.iload_n 1, 1) := by decide +kernel
theorem dX3_collectFrom_70 : decode cX3_collectFrom 70 = .ok (.iconst 1, 1) := by decide +kernel
theorem dX3_collectFrom_71 : decode cX3_collectFrom 71 = .ok (.iand, 1) := by decide +kernel
theorem dX3_collectFrom_72 : decode cX3_collectFrom 72 = .ok (.ifCond .ne 10, 3) := by decide +kernel
theorem dX3_collectFrom_75 : decode cX3_collectFrom 75 = .ok (.aload_n 0, 1) := by decide +kernel
theorem dX3_collectFrom_76 : decode cX3_collectFrom 76 = .ok (.getfield 115, 3) := by decide +kernel
theorem dX3_collectFrom_79 : decode cX3_collectFrom 79 = .ok (.goto 7, 3) := by decide +kernel
theorem dX3_collectFrom_82 : decode cX3_collectFrom 82 = .ok (.aload_n 0, 1) := by decide +kernel
theorem dX3_collectFrom_83 : decode cX3_collectFrom 83 = .ok (.getfield 124, 3) := by decide +kernel
theorem dX3_collectFrom_86 : decode cX3_collectFrom 86 = .ok (.iload_n 1, 1) := by decide +kernel
theorem dX3_collectFrom_87 : decode cX3_collectFrom 87 = .ok (.iload_n 2, 1) := by decide +kernel
theorem dX3_collectFrom_88 : decode cX3_collectFrom 88 = .ok (.invokevirtual 119, 3) := by decide +kernel
theorem dX3_collectFrom_91 : decode cX3_collectFrom 91 = .ok (.goto 3, 3) := by decide +kernel
theorem dX3_collectFrom_94 : decode cX3_collectFrom 94 = .ok (.return_, 1) := by decide +kernel
set_option maxRecDepth 20000 in
theorem ggX3_control_X3_controlWorkers : GoodIn wsX3_control wsX3_controlWorkers := goodIn_r _ [9, 10, 11, 12, 13, 14, 15, 16, 17, 18, 8, 19, 20, 46, 47, 48, 49, 50, 51, 52, 53, 54, 55, 56, 57, 58, 59, 60, 61, 62, 63, 64, 68, 69, 70, 71, 72, 73, 74, 75, 76] (by decide +kernel) (by decide +kernel)
set_option maxRecDepth 20000 in
theorem gX3_control_X3_controlWorkers : GoodIn wsX3_control (wsV RX3 127 RX3 yX3_controlWorkers wsX3_controlWorkers) := goodIn_app (goodIn_of _ (by decide +kernel)) ggX3_control_X3_controlWorkers
set_option maxRecDepth 20000 in
theorem ggX3_control_X3_controlBatch : GoodIn wsX3_control wsX3_controlBatch := goodIn_r _ [24, 10, 11, 25, 26, 27, 28, 29, 30, 31, 32, 46, 47, 48, 49, 50, 51, 52, 53, 54, 55, 56, 57, 58, 59, 60, 61, 62, 63, 64, 68, 69, 70, 71] (by decide +kernel) (by decide +kernel)
set_option maxRecDepth 20000 in
theorem gX3_control_X3_controlBatch : GoodIn wsX3_control (wsV RX3 130 RX3 yX3_controlBatch wsX3_controlBatch) := goodIn_app (goodIn_of _ (by decide +kernel)) ggX3_control_X3_controlBatch
set_option maxRecDepth 20000 in
theorem ggX3_control_X3_controlRate : GoodIn wsX3_control wsX3_controlRate := goodIn_r _ [36, 3, 2, 37, 30, 31, 28, 32, 26, 27, 29, 38, 39, 40, 41, 42, 43, 44, 45, 46, 47, 48, 49, 50, 51, 52, 53, 54, 55, 56, 57, 58, 59, 60, 61, 62, 63, 64, 65, 66, 67] (by decide +kernel) (by decide +kernel)
set_option maxRecDepth 20000 in
theorem gX3_control_X3_controlRate : GoodIn wsX3_control (wsV RX3 137 RX3 yX3_controlRate wsX3_controlRate) := goodIn_app (goodIn_of _ (by decide +kernel)) ggX3_control_X3_controlRate
theorem dX3_control_0 : decode cX3_control 0 = .ok (.aload_n 0, 1) := by decide +kernel
theorem dX3_control_1 : decode cX3_control 1 = .ok (.invokevirtual 127, 3) := by decide +kernel
theorem dX3_control_4 : decode cX3_control 4 = .ok (.aload_n 0, 1) := by decide +kernel
theorem dX3_control_5 : decode cX3_control 5 = .ok (.getfield 34, 3) := by decide +kernel
theorem dX3_control_8 : decode cX3_control 8 = .ok (.iconst 4, 1) := by decide +kernel
theorem dX3_control_9 : decode cX3_control 9 = .ok (.if_icmp .eq 7, 3) := by decide +kernel
theorem dX3_control_12 : decode cX3_control 12 = .ok (.aload_n 0, 1) := by decide +kernel
theorem dX3_control_13 : decode cX3_control 13 = .ok (.invokevirtual 130, 3) := by decide +kernel
theorem dX3_control_16 : decode cX3_control 16 = .ok (.aload_n 0, 1) := by decide +kernel
theorem dX3_control_17 : decode cX3_control 17 = .ok (.getfield 133, 3) := by decide +kernel
theorem dX3_control_20 : decode cX3_control 20 = .ok (.ifCond .le 17, 3) := by decide +kernel
theorem dX3_control_23 : decode cX3_control 23 = .ok (.aload_n 0, 1) := by decide +kernel
theorem dX3_control_24 : decode cX3_control 24 = .ok (.getfield 12, 3) := by decide +kernel
theorem dX3_control_27 : decode cX3_control 27 = .ok (.getfield 136, 3) := by decide +kernel
theorem dX3_control_30 : decode cX3_control 30 = .ok (.ifCond .le 7, 3) := by decide +kernel
theorem dX3_control_33 : decode cX3_control 33 = .ok (.aload_n 0, 1) := by decide +kernel
theorem dX3_control_34 : decode cX3_control 34 = .ok (.invokevirtual 137, 3) := by decide +kernel
theorem dX3_control_37 : decode cX3_control 37 = .ok (.return_, 1) := by decide +kernel
set_option maxRecDepth 20000 in
theorem ggX3_controlWorkers_X3_isLongIdle : GoodIn wsX3_controlWorkers wsX3_isLongIdle := goodIn_r _ [11, 12, 2, 6, 36, 37, 38, 39, 40, 32, 33, 34, 35] (by decide +kernel) (by decide +kernel)
set_option maxRecDepth 20000 in
theorem gX3_controlWorkers_X3_isLongIdle : GoodIn wsX3_controlWorkers (wsV RX3 143 RX3 yX3_isLongIdle wsX3_isLongIdle) := goodIn_app (goodIn_of _ (by decide +kernel)) ggX3_controlWorkers_X3_isLongIdle
theorem dX3_controlWorkers_0 : decode cX3_controlWorkers 0 = .ok (.aload_n 0, 1) := by decide +kernel
theorem dX3_controlWorkers_1 : decode cX3_controlWorkers 1 = .ok (.getfield 48, 3) := by decide +kernel
theorem dX3_controlWorkers_4 : decode cX3_controlWorkers 4 = .ok (.getfield 59, 3) := by decide +kernel
theorem dX3_controlWorkers_7 : decode cX3_controlWorkers 7 = .ok (.aload_n 0, 1) := by decide +kernel
theorem dX3_controlWorkers_8 : decode cX3_controlWorkers 8 = .ok (.getfield 37, 3) := by decide +kernel
theorem dX3_controlWorkers_11 : decode cX3_controlWorkers 11 = .ok (.iconst 2, 1) := by decide +kernel
theorem dX3_controlWorkers_12 : decode cX3_controlWorkers 12 = .ok (.idiv, 1) := by decide +kernel
theorem dX3_controlWorkers_13 : decode cX3_controlWorkers 13 = .ok (.if_icmp .le 41, 3) := by decide +kernel
theorem dX3_controlWorkers_16 : decode cX3_controlWorkers 16 = .ok (.aload_n 0, 1) := by decide +kernel
theorem dX3_controlWorkers_17 : decode cX3_controlWorkers 17 = .ok (.getfield 28, 3) := by decide +kernel
theorem dX3_controlWorkers_20 : decode cX3_controlWorkers 20 = .ok (.aload_n 0, 1) := by decide +kernel
theorem dX3_controlWorkers_21 : decode cX3_controlWorkers 21 = .ok (.getfield 54, 3) := by decide +kernel
theorem dX3_controlWorkers_24 : decode cX3_controlWorkers 24 = .ok (.arraylength, 1) := by decide +kernel
theorem dX3_controlWorkers_25 : decode cX3_controlWorkers 25 = .ok (.if_icmp .ge 29, 3) := by decide +kernel
theorem dX3_controlWorkers_28 : decode cX3_controlWorkers 28 = .ok (.aload_n 0, 1) := by decide +kernel
theorem dX3_controlWorkers_29 : decode cX3_controlWorkers 29 = .ok (.getfield 54, 3) := by decide +kernel
theorem dX3_controlWorkers_32 : decode cX3_controlWorkers 32 = .ok (.aload_n 0, 1) := by decide +kernel
theorem dX3_controlWorkers_33 : decode cX3_controlWorkers 33 = .ok (.getfield 28, 3) := by decide +kernel
theorem dX3_controlWorkers_36 : decode cX3_controlWorkers 36 = .ok (.aaload, 1) := by decide +kernel
theorem dX3_controlWorkers_37 : decode cX3_controlWorkers 37 = .ok (.iconst 0, 1) := by decide +kernel
theorem dX3_controlWorkers_38 : decode cX3_controlWorkers 38 = .ok (.putfield 140, 3) := by decide +kernel
theorem dX3_controlWorkers_41 : decode cX3_controlWorkers 41 = .ok (.aload_n 0, 1) := by decide +kernel
theorem dX3_controlWorkers_42 : decode cX3_controlWorkers 42 = .ok (.dup, 1) := by decide +kernel
theorem dX3_controlWorkers_43 : decode cX3_controlWorkers 43 = .ok (.getfield 28, 3) := by decide +kernel
theorem dX3_controlWorkers_46 : decode cX3_controlWorkers 46 = .ok (.iconst 1, 1) := by decide +kernel
theorem dX3_controlWorkers_47 : decode cX3_controlWorkers 47 = .ok (.iadd, 1) := by decide +kernel
theorem dX3_controlWorkers_48 : decode cX3_controlWorkers 48 = .ok (.putfield 28, 3) := by decide +kernel
theorem dX3_controlWorkers_51 : decode cX3_controlWorkers 51 = .ok (.goto 39, 3) := by decide +kernel
theorem dX3_controlWorkers_54 : decode cX3_controlWorkers 54 = .ok (.aload_n 0, 1) := by decide +kernel
theorem dX3_controlWorkers_55 : decode cX3_controlWorkers 55 = .ok (.getfield 28, 3) := by decide +kernel
theorem dX3_controlWorkers_58 : decode cX3_controlWorkers 58 = .ok (.iconst 1, 1) := by decide +kernel
theorem dX3_controlWorkers_59 : decode cX3_controlWorkers 59 = .ok (.if_icmp .le 31, 3) := by decide +kernel
theorem dX3_controlWorkers_62 : decode cX3_controlWorkers 62 = .ok (.aload_n 0, 1) := by decide +kernel
theorem dX3_controlWorkers_63 : decode cX3_controlWorkers 63 = .ok (.aload_n 0, 1) := by decide +kernel
theorem dX3_controlWorkers_64 : decode cX3_controlWorkers 64 = .ok (.getfield 54, 3) := by decide +kernel
theorem dX3_controlWorkers_67 : decode cX3_controlWorkers 67 = .ok (.aload_n 0, 1) := by decide +kernel
theorem dX3_controlWorkers_68 : decode cX3_controlWorkers 68 = .ok (.getfield 28, 3) := by decide +kernel
theorem dX3_controlWorkers_71 : decode cX3_controlWorkers 71 = .ok (.iconst 1, 1) := by decide +kernel
theorem dX3_controlWorkers_72 : decode cX3_controlWorkers 72 = .ok (.isub, 1) := by decide +kernel
theorem dX3_controlWorkers_73 : decode cX3_controlWorkers 73 = .ok (.aaload, 1) := by decide +kernel
theorem dX3_controlWorkers_74 : decode cX3_controlWorkers 74 = .ok (.invokevirtual 143, 3) := by decide +kernel
theorem dX3_controlWorkers_77 : decode cX3_controlWorkers 77 = .ok (.ifCond .eq 13, 3) := by decide +kernel
theorem dX3_controlWorkers_80 : decode cX3_controlWorkers 80 = .ok (.aload_n 0, 1) := by decide +kernel
theorem dX3_controlWorkers_81 : decode cX3_controlWorkers 81 = .ok (.dup, 1) := by decide +kernel
theorem dX3_controlWorkers_82 : decode cX3_controlWorkers 82 = .ok (.getfield 28, 3) := by decide +kernel
theorem dX3_controlWorkers_85 : decode cX3_controlWorkers 85 = .ok (.iconst 1, 1) := by decide +kernel
theorem dX3_controlWorkers_86 : decode cX3_controlWorkers 86 = .ok (.isub, 1) := by decide +kernel
theorem dX3_controlWorkers_87 : decode cX3_controlWorkers 87 = .ok (.putfield 28, 3) := by decide +kernel
theorem dX3_controlWorkers_90 : decode cX3_controlWorkers 90 = .ok (.return_, 1) := by decide +kernel
theorem dX3_isLongIdle_0 : decode cX3_isLongIdle 0 = .ok (.aload_n 1, 1) := by decide +kernel
theorem dX3_isLongIdle_1 : decode cX3_isLongIdle 1 = .ok (.getfield 86, 3) := by decide +kernel
theorem dX3_isLongIdle_4 : decode cX3_isLongIdle 4 = .ok (.getfield 59, 3) := by decide +kernel
theorem dX3_isLongIdle_7 : decode cX3_isLongIdle 7 = .ok (.ifCond .ne 16, 3) := by decide +kernel
theorem dX3_isLongIdle_10 : decode cX3_isLongIdle 10 = .ok (.aload_n 1, 1) := by decide +kernel
theorem dX3_isLongIdle_11 : decode cX3_isLongIdle 11 = .ok (.getfield 140, 3) := by decide +kernel
theorem dX3_isLongIdle_14 : decode cX3_isLongIdle 14 = .ok (.bipush 10, 2) := by decide +kernel
theorem dX3_isLongIdle_16 : decode cX3_isLongIdle 16 = .ok (.if_icmp .lt 7, 3) := by decide +kernel
theorem dX3_isLongIdle_19 : decode cX3_isLongIdle 19 = .ok (.iconst 1, 1) := by decide +kernel
theorem dX3_isLongIdle_20 : decode cX3_isLongIdle 20 = .ok (.goto 4, 3) := by decide +kernel
theorem dX3_isLongIdle_23 : decode cX3_isLongIdle 23 = .ok (.iconst 0, 1) := by decide +kernel
theorem dX3_isLongIdle_24 : decode cX3_isLongIdle 24 = .ok (.ireturn, 1) := by decide +kernel
theorem dX3_controlBatch_0 : decode cX3_controlBatch 0 = .ok (.aload_n 0, 1) := by decide +kernel
theorem dX3_controlBatch_1 : decode cX3_controlBatch 1 = .ok (.getfield 48, 3) := by decide +kernel
theorem dX3_controlBatch_4 : decode cX3_controlBatch 4 = .ok (.getfield 59, 3) := by decide +kernel
theorem dX3_controlBatch_7 : decode cX3_controlBatch 7 = .ok (.aload_n 0, 1) := by decide +kernel
theorem dX3_controlBatch_8 : decode cX3_controlBatch 8 = .ok (.getfield 31, 3) := by decide +kernel
theorem dX3_controlBatch_11 : decode cX3_controlBatch 11 = .ok (.if_icmp .le 21, 3) := by decide +kernel
theorem dX3_controlBatch_14 : decode cX3_controlBatch 14 = .ok (.aload_n 0, 1) := by decide +kernel
theorem dX3_controlBatch_15 : decode cX3_controlBatch 15 = .ok (.aload_n 0, 1) := by decide +kernel
theorem dX3_controlBatch_16 : decode cX3_controlBatch 16 = .ok (.getfield 31, 3) := by decide +kernel
theorem dX3_controlBatch_19 : decode cX3_controlBatch 19 = .ok (.iconst 1, 1) := by decide +kernel
theorem dX3_controlBatch_20 : decode cX3_controlBatch 20 = .ok (.iadd, 1) := by decide +kernel
theorem dX3_controlBatch_21 : decode cX3_controlBatch 21 = .ok (.bipush 8, 2) := by decide +kernel
theorem dX3_controlBatch_23 : decode cX3_controlBatch 23 = .ok (.invokestatic 80, 3) := by decide +kernel
theorem dX3_controlBatch_26 : decode cX3_controlBatch 26 = .ok (.putfield 31, 3) := by decide +kernel
theorem dX3_controlBatch_29 : decode cX3_controlBatch 29 = .ok (.goto 27, 3) := by decide +kernel
theorem dX3_controlBatch_32 : decode cX3_controlBatch 32 = .ok (.aload_n 0, 1) := by decide +kernel
theorem dX3_controlBatch_33 : decode cX3_controlBatch 33 = .ok (.getfield 48, 3) := by decide +kernel
theorem dX3_controlBatch_36 : decode cX3_controlBatch 36 = .ok (.getfield 59, 3) := by decide +kernel
theorem dX3_controlBatch_39 : decode cX3_controlBatch 39 = .ok (.ifCond .ne 17, 3) := by decide +kernel
theorem dX3_controlBatch_42 : decode cX3_controlBatch 42 = .ok (.aload_n 0, 1) := by decide +kernel
theorem dX3_controlBatch_43 : decode cX3_controlBatch 43 = .ok (.aload_n 0, 1) := by decide +kernel
theorem dX3_controlBatch_44 : decode cX3_controlBatch 44 = .ok (.getfield 31, 3) := by decide +kernel
theorem dX3_controlBatch_47 : decode cX3_controlBatch 47 = .ok (.iconst 1, 1) := by decide +kernel
theorem dX3_controlBatch_48 : decode cX3_controlBatch 48 = .ok (.isub, 1) := by decide +kernel
theorem dX3_controlBatch_49 : decode cX3_controlBatch 49 = .ok (.iconst 1, 1) := by decide +kernel
theorem dX3_controlBatch_50 : decode cX3_controlBatch 50 = .ok (.invokestatic 147, 3) := by decide +kernel
theorem dX3_controlBatch_53 : decode cX3_controlBatch 53 = .ok (.putfield 31, 3) := by decide +kernel
theorem dX3_controlBatch_56 : decode cX3_controlBatch 56 = .ok (.return_, 1) := by decide +kernel
set_option maxRecDepth 20000 in
theorem ggX3_controlRate_X5_response : GoodIn wsX3_controlRate wsX5_response := goodIn_r _ [15, 16, 17, 18, 38, 39, 40] (by decide +kernel) (by decide +kernel)
set_option maxRecDepth 20000 in
theorem gX3_controlRate_X5_response : GoodIn wsX3_controlRate (wsV RX3 150 RX5 yX5_response wsX5_response) := goodIn_app (goodIn_of _ (by decide +kernel)) ggX3_controlRate_X5_response
theorem dX3_controlRate_0 : decode cX3_controlRate 0 = .ok (.aload_n 0, 1) := by decide +kernel
theorem dX3_controlRate_1 : decode cX3_controlRate 1 = .ok (.getfield 12, 3) := by decide +kernel
theorem dX3_controlRate_4 : decode cX3_controlRate 4 = .ok (.invokevirtual 150, 3) := by decide +kernel
theorem dX3_controlRate_7 : decode cX3_controlRate 7 = .ok (.aload_n 0, 1) := by decide +kernel
theorem dX3_controlRate_8 : decode cX3_controlRate 8 = .ok (.getfield 133, 3) := by decide +kernel
theorem dX3_controlRate_11 : decode cX3_controlRate 11 = .ok (.if_icmp .le 22, 3) := by decide +kernel
theorem dX3_controlRate_14 : decode cX3_controlRate 14 = .ok (.aload_n 0, 1) := by decide +kernel
theorem dX3_controlRate_15 : decode cX3_controlRate 15 = .ok (.iconst 3, 1) := by decide +kernel
theorem dX3_controlRate_16 : decode cX3_controlRate 16 = .ok (.aload_n 0, 1) := by decide +kernel
theorem dX3_controlRate_17 : decode cX3_controlRate 17 = .ok (.getfield 18, 3) := by decide +kernel
theorem dX3_controlRate_20 : decode cX3_controlRate 20 = .ok (.imul, 1) := by decide +kernel
theorem dX3_controlRate_21 : decode cX3_controlRate 21 = .ok (.iconst 4, 1) := by decide +kernel
theorem dX3_controlRate_22 : decode cX3_controlRate 22 = .ok (.idiv, 1) := by decide +kernel
theorem dX3_controlRate_23 : decode cX3_controlRate 23 = .ok (.iconst 1, 1) := by decide +kernel
theorem dX3_controlRate_24 : decode cX3_controlRate 24 = .ok (.invokestatic 147, 3) := by decide +kernel
theorem dX3_controlRate_27 : decode cX3_controlRate 27 = .ok (.putfield 18, 3) := by decide +kernel
theorem dX3_controlRate_30 : decode cX3_controlRate 30 = .ok (.goto 18, 3) := by decide +kernel
theorem dX3_controlRate_33 : decode cX3_controlRate 33 = .ok (.aload_n 0, 1) := by decide +kernel
theorem dX3_controlRate_34 : decode cX3_controlRate 34 = .ok (.aload_n 0, 1) := by decide +kernel
theorem dX3_controlRate_35 : decode cX3_controlRate 35 = .ok (.getfield 18, 3) := by decide +kernel
theorem dX3_controlRate_38 : decode cX3_controlRate 38 = .ok (.iconst 1, 1) := by decide +kernel
theorem dX3_controlRate_39 : decode cX3_controlRate 39 = .ok (.iadd, 1) := by decide +kernel
theorem dX3_controlRate_40 : decode cX3_controlRate 40 = .ok (.bipush 100, 2) := by decide +kernel
theorem dX3_controlRate_42 : decode cX3_controlRate 42 = .ok (.invokestatic 80, 3) := by decide +kernel
theorem dX3_controlRate_45 : decode cX3_controlRate 45 = .ok (.putfield 18, 3) := by decide +kernel
theorem dX3_controlRate_48 : decode cX3_controlRate 48 = .ok (.return_, 1) := by decide +kernel
set_option maxRecDepth 20000 in
theorem ggX3_figure_X5_response : GoodIn wsX3_figure wsX5_response := goodIn_r _ [16, 17, 18, 19, 43, 44, 45] (by decide +kernel) (by decide +kernel)
set_option maxRecDepth 20000 in
theorem gX3_figure_X5_response : GoodIn wsX3_figure (wsV RX3 150 RX5 yX5_response wsX5_response) := goodIn_app (goodIn_of _ (by decide +kernel)) ggX3_figure_X5_response
theorem dX3_figure_0 : decode cX3_figure 0 = .ok (.iload_n 1, 1) := by decide +kernel
theorem dX3_figure_1 : decode cX3_figure 1 = .ok (.tableswitch 111 0 9 #[55, 63, 68, 73, 78, 83, 88, 93, 98, 103], 55) := by decide +kernel
theorem dX3_figure_56 : decode cX3_figure 56 = .ok (.aload_n 0, 1) := by decide +kernel
theorem dX3_figure_57 : decode cX3_figure 57 = .ok (.getfield 48, 3) := by decide +kernel
theorem dX3_figure_60 : decode cX3_figure 60 = .ok (.getfield 59, 3) := by decide +kernel
theorem dX3_figure_63 : decode cX3_figure 63 = .ok (.ireturn, 1) := by decide +kernel
theorem dX3_figure_64 : decode cX3_figure 64 = .ok (.aload_n 0, 1) := by decide +kernel
theorem dX3_figure_65 : decode cX3_figure 65 = .ok (.getfield 62, 3) := by decide +kernel
theorem dX3_figure_68 : decode cX3_figure 68 = .ok (.ireturn, 1) := by decide +kernel
theorem dX3_figure_69 : decode cX3_figure 69 = .ok (.aload_n 0, 1) := by decide +kernel
theorem dX3_figure_70 : decode cX3_figure 70 = .ok (.getfield 28, 3) := by decide +kernel
theorem dX3_figure_73 : decode cX3_figure 73 = .ok (.ireturn, 1) := by decide +kernel
theorem dX3_figure_74 : decode cX3_figure 74 = .ok (.aload_n 0, 1) := by decide +kernel
theorem dX3_figure_75 : decode cX3_figure 75 = .ok (.getfield 31, 3) := by decide +kernel
theorem dX3_figure_78 : decode cX3_figure 78 = .ok (.ireturn, 1) := by decide +kernel
theorem dX3_figure_79 : decode cX3_figure 79 = .ok (.aload_n 0, 1) := by decide +kernel
theorem dX3_figure_80 : decode cX3_figure 80 = .ok (.getfield 18, 3) := by decide +kernel
theorem dX3_figure_83 : decode cX3_figure 83 = .ok (.ireturn, 1) := by decide +kernel
theorem dX3_figure_84 : decode cX3_figure 84 = .ok (.aload_n 0, 1) := by decide +kernel
theorem dX3_figure_85 : decode cX3_figure 85 = .ok (.getfield 25, 3) := by decide +kernel
theorem dX3_figure_88 : decode cX3_figure 88 = .ok (.ireturn, 1) := by decide +kernel
theorem dX3_figure_89 : decode cX3_figure 89 = .ok (.aload_n 0, 1) := by decide +kernel
theorem dX3_figure_90 : decode cX3_figure 90 = .ok (.getfield 73, 3) := by decide +kernel
theorem dX3_figure_93 : decode cX3_figure 93 = .ok (.ireturn, 1) := by decide +kernel
theorem dX3_figure_94 : decode cX3_figure 94 = .ok (.aload_n 0, 1) := by decide +kernel
theorem dX3_figure_95 : decode cX3_figure 95 = .ok (.getfield 153, 3) := by decide +kernel
theorem dX3_figure_98 : decode cX3_figure 98 = .ok (.ireturn, 1) := by decide +kernel
theorem dX3_figure_99 : decode cX3_figure 99 = .ok (.aload_n 0, 1) := by decide +kernel
theorem dX3_figure_100 : decode cX3_figure 100 = .ok (.getfield 156, 3) := by decide +kernel
theorem dX3_figure_103 : decode cX3_figure 103 = .ok (.ireturn, 1) := by decide +kernel
theorem dX3_figure_104 : decode cX3_figure 104 = .ok (.aload_n 0, 1) := by decide +kernel
theorem dX3_figure_105 : decode cX3_figure 105 = .ok (.getfield 12, 3) := by decide +kernel
theorem dX3_figure_108 : decode cX3_figure 108 = .ok (.invokevirtual 150, 3) := by decide +kernel
theorem dX3_figure_111 : decode cX3_figure 111 = .ok (.ireturn, 1) := by decide +kernel
theorem dX3_figure_112 : decode cX3_figure 112 = .ok (.iconst (-1), 1) := by decide +kernel
theorem dX3_figure_113 : decode cX3_figure 113 = .ok (.ireturn, 1) := by decide +kernel
theorem dX4_init_0 : decode cX4_init 0 = .ok (.aload_n 0, 1) := by decide +kernel
theorem dX4_init_1 : decode cX4_init 1 = .ok (.invokespecial 3, 3) := by decide +kernel
theorem dX4_init_4 : decode cX4_init 4 = .ok (.aload_n 0, 1) := by decide +kernel
theorem dX4_init_5 : decode cX4_init 5 = .ok (.bipush 50, 2) := by decide +kernel
theorem dX4_init_7 : decode cX4_init 7 = .ok (.newarray .int, 2) := by decide +kernel
theorem dX4_init_9 : decode cX4_init 9 = .ok (.putfield 9, 3) := by decide +kernel
theorem dX4_init_12 : decode cX4_init 12 = .ok (.aload_n 0, 1) := by decide +kernel
theorem dX4_init_13 : decode cX4_init 13 = .ok (.bipush 50, 2) := by decide +kernel
theorem dX4_init_15 : decode cX4_init 15 = .ok (.anewarray 15, 3) := by decide +kernel
theorem dX4_init_18 : decode cX4_init 18 = .ok (.putfield 17, 3) := by decide +kernel
theorem dX4_init_21 : decode cX4_init 21 = .ok (.aload_n 0, 1) := by decide +kernel
theorem dX4_init_22 : decode cX4_init 22 = .ok (.bipush 50, 2) := by decide +kernel
theorem dX4_init_24 : decode cX4_init 24 = .ok (.newarray .int, 2) := by decide +kernel
theorem dX4_init_26 : decode cX4_init 26 = .ok (.putfield 21, 3) := by decide +kernel
theorem dX4_init_29 : decode cX4_init 29 = .ok (.aload_n 0, 1) := by decide +kernel
theorem dX4_init_30 : decode cX4_init 30 = .ok (.bipush 50, 2) := by decide +kernel
theorem dX4_init_32 : decode cX4_init 32 = .ok (.newarray .int, 2) := by decide +kernel
theorem dX4_init_34 : decode cX4_init 34 = .ok (.putfield 24, 3) := by decide +kernel
theorem dX4_init_37 : decode cX4_init 37 = .ok (.return_, 1) := by decide +kernel
theorem dX4_append_0 : decode cX4_append 0 = .ok (.aload_n 0, 1) := by decide +kernel
theorem dX4_append_1 : decode cX4_append 1 = .ok (.getfield 27, 3) := by decide +kernel
theorem dX4_append_4 : decode cX4_append 4 = .ok (.bipush 50, 2) := by decide +kernel
theorem dX4_append_6 : decode cX4_append 6 = .ok (.if_icmp .lt 6, 3) := by decide +kernel
theorem dX4_append_9 : decode cX4_append 9 = .ok (.bipush (-2), 2) := by decide +kernel
theorem dX4_append_11 : decode cX4_append 11 = .ok (.ireturn, 1) := by decide +kernel
theorem dX4_append_12 : decode cX4_append 12 = .ok (.aload_n 0, 1) := by decide +kernel
theorem dX4_append_13 : decode cX4_append 13 = .ok (.getfield 9, 3) := by decide +kernel
theorem dX4_append_16 : decode cX4_append 16 = .ok (.aload_n 0, 1) := by decide +kernel
theorem dX4_append_17 : decode cX4_append 17 = .ok (.getfield 27, 3) := by decide +kernel
theorem dX4_append_20 : decode cX4_append 20 = .ok (.aload_n 0, 1) := by decide +kernel
theorem dX4_append_21 : decode cX4_append 21 = .ok (.getfield 31, 3) := by decide +kernel
theorem dX4_append_24 : decode cX4_append 24 = .ok (.iastore, 1) := by decide +kernel
theorem dX4_append_25 : decode cX4_append 25 = .ok (.aload_n 0, 1) := by decide +kernel
theorem dX4_append_26 : decode cX4_append 26 = .ok (.getfield 17, 3) := by decide +kernel
theorem dX4_append_29 : decode cX4_append 29 = .ok (.aload_n 0, 1) := by decide +kernel
theorem dX4_append_30 : decode cX4_append 30 = .ok (.getfield 27, 3) := by decide +kernel
theorem dX4_append_33 : decode cX4_append 33 = .ok (.aload_n 1, 1) := by decide +kernel
theorem dX4_append_34 : decode cX4_append 34 = .ok (.aastore, 1) := by decide +kernel
theorem dX4_append_35 : decode cX4_append 35 = .ok (.aload_n 0, 1) := by decide +kernel
theorem dX4_append_36 : decode cX4_append 36 = .ok (.getfield 21, 3) := by decide +kernel
theorem dX4_append_39 : decode cX4_append 39 = .ok (.aload_n 0, 1) := by decide +kernel
theorem dX4_append_40 : decode cX4_append 40 = .ok (.getfield 27, 3) := by decide +kernel
theorem dX4_append_43 : decode cX4_append 43 = .ok (.iload_n 2, 1) := by decide +kernel
theorem dX4_append_44 : decode cX4_append 44 = .ok (.iastore, 1) := by decide +kernel
theorem dX4_append_45 : decode cX4_append 45 = .ok (.aload_n 0, 1) := by decide +kernel
theorem dX4_append_46 : decode cX4_append 46 = .ok (.getfield 24, 3) := by decide +kernel
theorem dX4_append_49 : decode cX4_append 49 = .ok (.aload_n 0, 1) := by decide +kernel
theorem dX4_append_50 : decode cX4_append 50 = .ok (.getfield 27, 3) := by decide +kernel
theorem dX4_append_53 : decode cX4_append 53 = .ok (.iload_n 3, 1) := by decide +kernel
theorem dX4_append_54 : decode cX4_append 54 = .ok (.iastore, 1) := by decide +kernel
theorem dX4_append_55 : decode cX4_append 55 = .ok (.aload_n 0, 1) := by decide +kernel
theorem dX4_append_56 : decode cX4_append 56 = .ok (.dup, 1) := by decide +kernel
theorem dX4_append_57 : decode cX4_append 57 = .ok (.getfield 27, 3) := by decide +kernel
theorem dX4_append_60 : decode cX4_append 60 = .ok (.iconst 1, 1) := by decide +kernel
theorem dX4_append_61 : decode cX4_append 61 = .ok (.iadd, 1) := by decide +kernel
theorem dX4_append_62 : decode cX4_append 62 = .ok (.putfield 27, 3) := by decide +kernel
theorem dX4_append_65 : decode cX4_append 65 = .ok (.aload_n 0, 1) := by decide +kernel
theorem dX4_append_66 : decode cX4_append 66 = .ok (.dup, 1) := by decide +kernel
theorem dX4_append_67 : decode cX4_append 67 = .ok (.getfield 31, 3) := by decide +kernel
theorem dX4_append_70 : decode cX4_append 70 = .ok (.iconst 1, 1) := by decide +kernel
theorem dX4_append_71 : decode cX4_append 71 = .ok (.iadd, 1) := by decide +kernel
theorem dX4_append_72 : decode cX4_append 72 = .ok (.putfield 31, 3) := by decide +kernel
theorem dX4_append_75 : decode cX4_append 75 = .ok (.aload_n 0, 1) := by decide +kernel
theorem dX4_append_76 : decode cX4_append 76 = .ok (.getfield 31, 3) := by decide +kernel
theorem dX4_append_79 : decode cX4_append 79 = .ok (.iconst 1, 1) := by decide +kernel
theorem dX4_append_80 : decode cX4_append 80 = .ok (.isub, 1) := by decide +kernel
theorem dX4_append_81 : decode cX4_append 81 = .ok (.ireturn, 1) := by decide +kernel
set_option maxRecDepth 20000 in
theorem ggX4_remove_X4_move : GoodIn wsX4_remove wsX4_move := goodIn_r _ [7, 2, 8, 9, 10, 11, 12, 13, 14, 15, 16] (by decide +kernel) (by decide +kernel)
set_option maxRecDepth 20000 in
theorem gX4_remove_X4_move : GoodIn wsX4_remove (wsV RX4 34 RX4 yX4_move wsX4_move) := goodIn_app (goodIn_of _ (by decide +kernel)) ggX4_remove_X4_move
theorem dX4_remove_0 : decode cX4_remove 0 = .ok (.iconst 0, 1) := by decide +kernel
theorem dX4_remove_1 : decode cX4_remove 1 = .ok (.istore_n 2, 1) := by decide +kernel
theorem dX4_remove_2 : decode cX4_remove 2 = .ok (.iconst 0, 1) := by decide +kernel
theorem dX4_remove_3 : decode cX4_remove 3 = .ok (.istore_n 3, 1) := by decide +kernel
theorem dX4_remove_4 : decode cX4_remove 4 = .ok (.iload_n 3, 1) := by decide +kernel
theorem dX4_remove_5 : decode cX4_remove 5 = .ok (.aload_n 0, 1) := by decide +kernel
theorem dX4_remove_6 : decode cX4_remove 6 = .ok (.getfield 27, 3) := by decide +kernel
theorem dX4_remove_9 : decode cX4_remove 9 = .ok (.if_icmp .ge 28, 3) := by decide +kernel
theorem dX4_remove_12 : decode cX4_remove 12 = .ok (.aload_n 0, 1) := by decide +kernel
theorem dX4_remove_13 : decode cX4_remove 13 = .ok (.getfield 9, 3) := by decide +kernel
theorem dX4_remove_16 : decode cX4_remove 16 = .ok (.iload_n 3, 1) := by decide +kernel
theorem dX4_remove_17 : decode cX4_remove 17 = .ok (.iaload, 1) := by decide +kernel
theorem dX4_remove_18 : decode cX4_remove 18 = .ok (.iload_n 1, 1) := by decide +kernel
theorem dX4_remove_19 : decode cX4_remove 19 = .ok (.if_icmp .eq 12, 3) := by decide +kernel
theorem dX4_remove_22 : decode cX4_remove 22 = .ok (.aload_n 0, 1) := by decide +kernel
theorem dX4_remove_23 : decode cX4_remove 23 = .ok (.iload_n 3, 1) := by decide +kernel
theorem dX4_remove_24 : decode cX4_remove 24 = .ok (.iload_n 2, 1) := by decide +kernel
theorem dX4_remove_25 : decode cX4_remove 25 = .ok (.invokevirtual 34, 3) := by decide +kernel
theorem dX4_remove_28 : decode cX4_remove 28 = .ok (.iinc 2 1, 3) := by decide +kernel
theorem dX4_remove_31 : decode cX4_remove 31 = .ok (.iinc 3 1, 3) := by decide +kernel
theorem dX4_remove_34 : decode cX4_remove 34 = .ok (.goto (-30), 3) := by decide +kernel
theorem dX4_remove_37 : decode cX4_remove 37 = .ok (.iload_n 2, 1) := by decide +kernel
theorem dX4_remove_38 : decode cX4_remove 38 = .ok (.aload_n 0, 1) := by decide +kernel
theorem dX4_remove_39 : decode cX4_remove 39 = .ok (.getfield 27, 3) := by decide +kernel
theorem dX4_remove_42 : decode cX4_remove 42 = .ok (.if_icmp .ge 7, 3) := by decide +kernel
theorem dX4_remove_45 : decode cX4_remove 45 = .ok (.iconst 1, 1) := by decide +kernel
theorem dX4_remove_46 : decode cX4_remove 46 = .ok (.goto 4, 3) := by decide +kernel
theorem dX4_remove_49 : decode cX4_remove 49 = .ok (.iconst 0, 1) := by decide +kernel
theorem dX4_remove_50 : decode cX4_remove 50 = .ok (.istore_n 3, 1) := by decide +kernel
theorem dX4_remove_51 : decode cX4_remove 51 = .ok (.aload_n 0, 1) := by decide +kernel
theorem dX4_remove_52 : decode cX4_remove 52 = .ok (.iload_n 2, 1) := by decide +kernel
theorem dX4_remove_53 : decode cX4_remove 53 = .ok (.putfield 27, 3) := by decide +kernel
theorem dX4_remove_56 : decode cX4_remove 56 = .ok (.iload_n 3, 1) := by decide +kernel
theorem dX4_remove_57 : decode cX4_remove 57 = .ok (.ireturn, 1) := by decide +kernel
theorem dX4_move_0 : decode cX4_move 0 = .ok (.aload_n 0, 1) := by decide +kernel
theorem dX4_move_1 : decode cX4_move 1 = .ok (.getfield 9, 3) := by decide +kernel
theorem dX4_move_4 : decode cX4_move 4 = .ok (.iload_n 2, 1) := by decide +kernel
theorem dX4_move_5 : decode cX4_move 5 = .ok (.aload_n 0, 1) := by decide +kernel
theorem dX4_move_6 : decode cX4_move 6 = .ok (.getfield 9, 3) := by decide +kernel
theorem dX4_move_9 : decode cX4_move 9 = .ok (.iload_n 1, 1) := by decide +kernel
theorem dX4_move_10 : decode cX4_move 10 = .ok (.iaload, 1) := by decide +kernel
theorem dX4_move_11 : decode cX4_move 11 = .ok (.iastore, 1) := by decide +kernel
theorem dX4_move_12 : decode cX4_move 12 = .ok (.aload_n 0, 1) := by decide +kernel
theorem dX4_move_13 : decode cX4_move 13 = .ok (.getfield 17, 3) := by decide +kernel
theorem dX4_move_16 : decode cX4_move 16 = .ok (.iload_n 2, 1) := by decide +kernel
theorem dX4_move_17 : decode cX4_move 17 = .ok (.aload_n 0, 1) := by decide +kernel
theorem dX4_move_18 : decode cX4_move 18 = .ok (.getfield 17, 3) := by decide +kernel
theorem dX4_move_21 : decode cX4_move 21 = .ok (.iload_n 1, 1) := by decide +kernel
theorem dX4_move_22 : decode cX4_move 22 = .ok (.aaload, 1) := by decide +kernel
theorem dX4_move_23 : decode cX4_move 23 = .ok (.aastore, 1) := by decide +kernel
theorem dX4_move_24 : decode cX4_move 24 = .ok (.aload_n 0, 1) := by decide +kernel
theorem dX4_move_25 : decode cX4_move 25 = .ok (.getfield 21, 3) := by decide +kernel
theorem dX4_move_28 : decode cX4_move 28 = .ok (.iload_n 2, 1) := by decide +kernel
theorem dX4_move_29 : decode cX4_move 29 = .ok (.aload_n 0, 1) := by decide +kernel
theorem dX4_move_30 : decode cX4_move 30 = .ok (.getfield 21, 3) := by decide +kernel
theorem dX4_move_33 : decode cX4_move 33 = .ok (.iload_n 1, 1) := by decide +kernel
theorem dX4_move_34 : decode cX4_move 34 = .ok (.iaload, 1) := by decide +kernel
theorem dX4_move_35 : decode cX4_move 35 = .ok (.iastore, 1) := by decide +kernel
theorem dX4_move_36 : decode cX4_move 36 = .ok (.aload_n 0, 1) := by decide +kernel
theorem dX4_move_37 : decode cX4_move 37 = .ok (.getfield 24, 3) := by decide +kernel
theorem dX4_move_40 : decode cX4_move 40 = .ok (.iload_n 2, 1) := by decide +kernel
theorem dX4_move_41 : decode cX4_move 41 = .ok (.aload_n 0, 1) := by decide +kernel
theorem dX4_move_42 : decode cX4_move 42 = .ok (.getfield 24, 3) := by decide +kernel
theorem dX4_move_45 : decode cX4_move 45 = .ok (.iload_n 1, 1) := by decide +kernel
theorem dX4_move_46 : decode cX4_move 46 = .ok (.iaload, 1) := by decide +kernel
theorem dX4_move_47 : decode cX4_move 47 = .ok (.iastore, 1) := by decide +kernel
theorem dX4_move_48 : decode cX4_move 48 = .ok (.return_, 1) := by decide +kernel
theorem dX5_init_0 : decode cX5_init 0 = .ok (.aload_n 0, 1) := by decide +kernel
theorem dX5_init_1 : decode cX5_init 1 = .ok (.invokespecial 3, 3) := by decide +kernel
theorem dX5_init_4 : decode cX5_init 4 = .ok (.aload_n 0, 1) := by decide +kernel
theorem dX5_init_5 : decode cX5_init 5 = .ok (.bipush 20, 2) := by decide +kernel
theorem dX5_init_7 : decode cX5_init 7 = .ok (.newarray .int, 2) := by decide +kernel
theorem dX5_init_9 : decode cX5_init 9 = .ok (.putfield 9, 3) := by decide +kernel
theorem dX5_init_12 : decode cX5_init 12 = .ok (.aload_n 0, 1) := by decide +kernel
theorem dX5_init_13 : decode cX5_init 13 = .ok (.bipush 20, 2) := by decide +kernel
theorem dX5_init_15 : decode cX5_init 15 = .ok (.newarray .int, 2) := by decide +kernel
theorem dX5_init_17 : decode cX5_init 17 = .ok (.putfield 15, 3) := by decide +kernel
theorem dX5_init_20 : decode cX5_init 20 = .ok (.return_, 1) := by decide +kernel
theorem dX5_append_0 : decode cX5_append 0 = .ok (.aload_n 0, 1) := by decide +kernel
theorem dX5_append_1 : decode cX5_append 1 = .ok (.getfield 18, 3) := by decide +kernel
theorem dX5_append_4 : decode cX5_append 4 = .ok (.bipush 20, 2) := by decide +kernel
theorem dX5_append_6 : decode cX5_append 6 = .ok (.if_icmp .lt 24, 3) := by decide +kernel
theorem dX5_append_9 : decode cX5_append 9 = .ok (.aload_n 0, 1) := by decide +kernel
theorem dX5_append_10 : decode cX5_append 10 = .ok (.getfield 9, 3) := by decide +kernel
theorem dX5_append_13 : decode cX5_append 13 = .ok (.iconst 1, 1) := by decide +kernel
theorem dX5_append_14 : decode cX5_append 14 = .ok (.aload_n 0, 1) := by decide +kernel
theorem dX5_append_15 : decode cX5_append 15 = .ok (.getfield 9, 3) := by decide +kernel
theorem dX5_append_18 : decode cX5_append 18 = .ok (.iconst 0, 1) := by decide +kernel
theorem dX5_append_19 : decode cX5_append 19 = .ok (.bipush 19, 2) := by decide +kernel
theorem dX5_append_21 : decode cX5_append 21 = .ok (.invokestatic 22, 3) := by decide +kernel
theorem dX5_append_24 : decode cX5_append 24 = .ok (.aload_n 0, 1) := by decide +kernel
theorem dX5_append_25 : decode cX5_append 25 = .ok (.bipush 19, 2) := by decide +kernel
theorem dX5_append_27 : decode cX5_append 27 = .ok (.putfield 18, 3) := by decide +kernel
theorem dX5_append_30 : decode cX5_append 30 = .ok (.aload_n 0, 1) := by decide +kernel
theorem dX5_append_31 : decode cX5_append 31 = .ok (.getfield 9, 3) := by decide +kernel
theorem dX5_append_34 : decode cX5_append 34 = .ok (.aload_n 0, 1) := by decide +kernel
theorem dX5_append_35 : decode cX5_append 35 = .ok (.getfield 18, 3) := by decide +kernel
theorem dX5_append_38 : decode cX5_append 38 = .ok (.iload_n 1, 1) := by decide +kernel
theorem dX5_append_39 : decode cX5_append 39 = .ok (.iastore, 1) := by decide +kernel
theorem dX5_append_40 : decode cX5_append 40 = .ok (.aload_n 0, 1) := by decide +kernel
theorem dX5_append_41 : decode cX5_append 41 = .ok (.dup, 1) := by decide +kernel
theorem dX5_append_42 : decode cX5_append 42 = .ok (.getfield 18, 3) := by decide +kernel
theorem dX5_append_45 : decode cX5_append 45 = .ok (.iconst 1, 1) := by decide +kernel
theorem dX5_append_46 : decode cX5_append 46 = .ok (.iadd, 1) := by decide +kernel
theorem dX5_append_47 : decode cX5_append 47 = .ok (.putfield 18, 3) := by decide +kernel
theorem dX5_append_50 : decode cX5_append 50 = .ok (.return_, 1) := by decide +kernel
theorem dX5_response_0 : decode cX5_response 0 = .ok (.aload_n 0, 1) := by decide +kernel
theorem dX5_response_1 : decode cX5_response 1 = .ok (.getfield 18, 3) := by decide +kernel
theorem dX5_response_4 : decode cX5_response 4 = .ok (.ifCond .ne 5, 3) := by decide +kernel
theorem dX5_response_7 : decode cX5_response 7 = .ok (.iconst 0, 1) := by decide +kernel
theorem dX5_response_8 : decode cX5_response 8 = .ok (.ireturn, 1) := by decide +kernel
theorem dX5_response_9 : decode cX5_response 9 = .ok (.iconst 0, 1) := by decide +kernel
theorem dX5_response_10 : decode cX5_response 10 = .ok (.istore_n 1, 1) := by decide +kernel
theorem dX5_response_11 : decode cX5_response 11 = .ok (.iload_n 1, 1) := by decide +kernel
theorem dX5_response_12 : decode cX5_response 12 = .ok (.aload_n 0, 1) := by decide +kernel
theorem dX5_response_13 : decode cX5_response 13 = .ok (.getfield 18, 3) := by decide +kernel
theorem dX5_response_16 : decode cX5_response 16 = .ok (.if_icmp .ge 64, 3) := by decide +kernel
theorem dX5_response_19 : decode cX5_response 19 = .ok (.iload_n 1, 1) := by decide +kernel
theorem dX5_response_20 : decode cX5_response 20 = .ok (.istore_n 2, 1) := by decide +kernel
theorem dX5_response_21 : decode cX5_response 21 = .ok (.iload_n 2, 1) := by decide +kernel
theorem dX5_response_22 : decode cX5_response 22 = .ok (.ifCond .le 40, 3) := by decide +kernel
theorem dX5_response_25 : decode cX5_response 25 = .ok (.aload_n 0, 1) := by decide +kernel
theorem dX5_response_26 : decode cX5_response 26 = .ok (.getfield 15, 3) := by decide +kernel
theorem dX5_response_29 : decode cX5_response 29 = .ok (.iload_n 2, 1) := by decide +kernel
theorem dX5_response_30 : decode cX5_response 30 = .ok (.iconst 1, 1) := by decide +kernel
theorem dX5_response_31 : decode cX5_response 31 = .ok (.isub, 1) := by decide +kernel
theorem dX5_response_32 : decode cX5_response 32 = .ok (.iaload, 1) := by decide +kernel
theorem dX5_response_33 : decode cX5_response 33 = .ok (.aload_n 0, 1) := by decide +kernel
theorem dX5_response_34 : decode cX5_response 34 = .ok (.getfield 9, 3) := by decide +kernel
theorem dX5_response_37 : decode cX5_response 37 = .ok (.iload_n 1, 1) := by decide +kernel
theorem dX5_response_38 : decode cX5_response 38 = .ok (.iaload, 1) := by decide +kernel
theorem dX5_response_39 : decode cX5_response 39 = .ok (.if_icmp .le 23, 3) := by decide +kernel
theorem dX5_response_42 : decode cX5_response 42 = .ok (.aload_n 0, 1) := by decide +kernel
theorem dX5_response_43 : decode cX5_response 43 = .ok (.getfield 15, 3) := by decide +kernel
theorem dX5_response_46 : decode cX5_response 46 = .ok (.iload_n 2, 1) := by decide +kernel
theorem dX5_response_47 : decode cX5_response 47 = .ok (.aload_n 0, 1) := by decide +kernel
theorem dX5_response_48 : decode cX5_response 48 = .ok (.getfield 15, 3) := by decide +kernel
theorem dX5_response_51 : decode cX5_response 51 = .ok (.iload_n 2, 1) := by decide +kernel
theorem dX5_response_52 : decode cX5_response 52 = .ok (.iconst 1, 1) := by decide +kernel
theorem dX5_response_53 : decode cX5_response 53 = .ok (.isub, 1) := by decide +kernel
theorem dX5_response_54 : decode cX5_response 54 = .ok (.iaload, 1) := by decide +kernel
theorem dX5_response_55 : decode cX5_response 55 = .ok (.iastore, 1) := by decide +kernel
theorem dX5_response_56 : decode cX5_response 56 = .ok (.iinc 2 (-1), 3) := by decide +kernel
theorem dX5_response_59 : decode cX5_response 59 = .ok (.goto (-38), 3) := by decide +kernel
theorem dX5_response_62 : decode cX5_response 62 = .ok (.aload_n 0, 1) := by decide +kernel
theorem dX5_response_63 : decode cX5_response 63 = .ok (.getfield 15, 3) := by decide +kernel
theorem dX5_response_66 : decode cX5_response 66 = .ok (.iload_n 2, 1) := by decide +kernel
theorem dX5_response_67 : decode cX5_response 67 = .ok (.aload_n 0, 1) := by decide +kernel
theorem dX5_response_68 : decode cX5_response 68 = .ok (.getfield 9, 3) := by decide +kernel
theorem dX5_response_71 : decode cX5_response 71 = .ok (.iload_n 1, 1) := by decide +kernel
theorem dX5_response_72 : decode cX5_response 72 = .ok (.iaload, 1) := by decide +kernel
theorem dX5_response_73 : decode cX5_response 73 = .ok (.iastore, 1) := by decide +kernel
theorem dX5_response_74 : decode cX5_response 74 = .ok (.iinc 1 1, 3) := by decide +kernel
theorem dX5_response_77 : decode cX5_response 77 = .ok (.goto (-66), 3) := by decide +kernel
theorem dX5_response_80 : decode cX5_response 80 = .ok (.aload_n 0, 1) := by decide +kernel
theorem dX5_response_81 : decode cX5_response 81 = .ok (.getfield 15, 3) := by decide +kernel
theorem dX5_response_84 : decode cX5_response 84 = .ok (.bipush 9, 2) := by decide +kernel
theorem dX5_response_86 : decode cX5_response 86 = .ok (.aload_n 0, 1) := by decide +kernel
theorem dX5_response_87 : decode cX5_response 87 = .ok (.getfield 18, 3) := by decide +kernel
theorem dX5_response_90 : decode cX5_response 90 = .ok (.imul, 1) := by decide +kernel
theorem dX5_response_91 : decode cX5_response 91 = .ok (.bipush 10, 2) := by decide +kernel
theorem dX5_response_93 : decode cX5_response 93 = .ok (.idiv, 1) := by decide +kernel
theorem dX5_response_94 : decode cX5_response 94 = .ok (.iaload, 1) := by decide +kernel
theorem dX5_response_95 : decode cX5_response 95 = .ok (.ireturn, 1) := by decide +kernel
set_option maxRecDepth 20000 in
theorem ggX6_init_X1_init : GoodIn wsX6_init wsX1_init := goodIn_r _ [14, 15, 2, 3, 16, 17, 18, 19, 28, 29, 30, 31] (by decide +kernel) (by decide +kernel)
set_option maxRecDepth 20000 in
theorem gX6_init_X1_init : GoodIn wsX6_init (wsX1_init) := ggX6_init_X1_init
set_option maxRecDepth 20000 in
theorem ggX6_init_X2_init : GoodIn wsX6_init wsX2_init := goodIn_r _ [21, 22, 2, 3, 23, 24, 16, 25, 26, 27, 37, 38, 39, 40, 41, 42] (by decide +kernel) (by decide +kernel)
set_option maxRecDepth 20000 in
theorem gX6_init_X2_init_n22 : GoodIn wsX6_init (wsX2_init) := ggX6_init_X2_init
theorem dX6_init_0 : decode cX6_init 0 = .ok (.aload_n 0, 1) := by decide +kernel
theorem dX6_init_1 : decode cX6_init 1 = .ok (.invokespecial 3, 3) := by decide +kernel
theorem dX6_init_4 : decode cX6_init 4 = .ok (.aload_n 0, 1) := by decide +kernel
theorem dX6_init_5 : decode cX6_init 5 = .ok (.new 9, 3) := by decide +kernel
theorem dX6_init_8 : decode cX6_init 8 = .ok (.dup, 1) := by decide +kernel
theorem dX6_init_9 : decode cX6_init 9 = .ok (.bipush 8, 2) := by decide +kernel
theorem dX6_init_11 : decode cX6_init 11 = .ok (.invokespecial 11, 3) := by decide +kernel
theorem dX6_init_14 : decode cX6_init 14 = .ok (.putfield 14, 3) := by decide +kernel
theorem dX6_init_17 : decode cX6_init 17 = .ok (.aload_n 0, 1) := by decide +kernel
theorem dX6_init_18 : decode cX6_init 18 = .ok (.new 20, 3) := by decide +kernel
theorem dX6_init_21 : decode cX6_init 21 = .ok (.dup, 1) := by decide +kernel
theorem dX6_init_22 : decode cX6_init 22 = .ok (.invokespecial 22, 3) := by decide +kernel
theorem dX6_init_25 : decode cX6_init 25 = .ok (.putfield 23, 3) := by decide +kernel
theorem dX6_init_28 : decode cX6_init 28 = .ok (.return_, 1) := by decide +kernel
theorem dX6_figure_0 : decode cX6_figure 0 = .ok (.iload_n 1, 1) := by decide +kernel
theorem dX6_figure_1 : decode cX6_figure 1 = .ok (.tableswitch 56 0 2 #[27, 35, 40], 27) := by decide +kernel
theorem dX6_figure_28 : decode cX6_figure 28 = .ok (.aload_n 0, 1) := by decide +kernel
theorem dX6_figure_29 : decode cX6_figure 29 = .ok (.getfield 14, 3) := by decide +kernel
theorem dX6_figure_32 : decode cX6_figure 32 = .ok (.getfield 27, 3) := by decide +kernel
theorem dX6_figure_35 : decode cX6_figure 35 = .ok (.ireturn, 1) := by decide +kernel
theorem dX6_figure_36 : decode cX6_figure 36 = .ok (.aload_n 0, 1) := by decide +kernel
theorem dX6_figure_37 : decode cX6_figure 37 = .ok (.getfield 31, 3) := by decide +kernel
theorem dX6_figure_40 : decode cX6_figure 40 = .ok (.ireturn, 1) := by decide +kernel
theorem dX6_figure_41 : decode cX6_figure 41 = .ok (.aload_n 0, 1) := by decide +kernel
theorem dX6_figure_42 : decode cX6_figure 42 = .ok (.getfield 23, 3) := by decide +kernel
theorem dX6_figure_45 : decode cX6_figure 45 = .ok (.getfield 34, 3) := by decide +kernel
theorem dX6_figure_48 : decode cX6_figure 48 = .ok (.aload_n 0, 1) := by decide +kernel
theorem dX6_figure_49 : decode cX6_figure 49 = .ok (.getfield 23, 3) := by decide +kernel
theorem dX6_figure_52 : decode cX6_figure 52 = .ok (.getfield 35, 3) := by decide +kernel
theorem dX6_figure_55 : decode cX6_figure 55 = .ok (.isub, 1) := by decide +kernel
theorem dX6_figure_56 : decode cX6_figure 56 = .ok (.ireturn, 1) := by decide +kernel
theorem dX6_figure_57 : decode cX6_figure 57 = .ok (.iconst (-1), 1) := by decide +kernel
theorem dX6_figure_58 : decode cX6_figure 58 = .ok (.ireturn, 1) := by decide +kernel

theorem dX0_init_0 : decode cX0_init 0 = .ok (.aload_n 0, 1) := by decide +kernel
theorem dX0_init_1 : decode cX0_init 1 = .ok (.invokespecial 3, 3) := by decide +kernel
theorem dX0_init_4 : decode cX0_init 4 = .ok (.aload_n 0, 1) := by decide +kernel
theorem dX0_init_5 : decode cX0_init 5 = .ok (.iload_n 1, 1) := by decide +kernel
theorem dX0_init_6 : decode cX0_init 6 = .ok (.newarray .byte, 2) := by decide +kernel
theorem dX0_init_8 : decode cX0_init 8 = .ok (.putfield 9, 3) := by decide +kernel
theorem dX0_init_11 : decode cX0_init 11 = .ok (.return_, 1) := by decide +kernel
theorem dX0_byteAt_0 : decode cX0_byteAt 0 = .ok (.iload_n 1, 1) := by decide +kernel
theorem dX0_byteAt_1 : decode cX0_byteAt 1 = .ok (.ifCond .lt 25, 3) := by decide +kernel
theorem dX0_byteAt_4 : decode cX0_byteAt 4 = .ok (.iload_n 1, 1) := by decide +kernel
theorem dX0_byteAt_5 : decode cX0_byteAt 5 = .ok (.aload_n 0, 1) := by decide +kernel
theorem dX0_byteAt_6 : decode cX0_byteAt 6 = .ok (.getfield 9, 3) := by decide +kernel
theorem dX0_byteAt_9 : decode cX0_byteAt 9 = .ok (.arraylength, 1) := by decide +kernel
theorem dX0_byteAt_10 : decode cX0_byteAt 10 = .ok (.if_icmp .ge 16, 3) := by decide +kernel
theorem dX0_byteAt_13 : decode cX0_byteAt 13 = .ok (.aload_n 0, 1) := by decide +kernel
theorem dX0_byteAt_14 : decode cX0_byteAt 14 = .ok (.getfield 9, 3) := by decide +kernel
theorem dX0_byteAt_17 : decode cX0_byteAt 17 = .ok (.iload_n 1, 1) := by decide +kernel
theorem dX0_byteAt_18 : decode cX0_byteAt 18 = .ok (.baload, 1) := by decide +kernel
theorem dX0_byteAt_19 : decode cX0_byteAt 19 = .ok (.sipush 255, 3) := by decide +kernel
theorem dX0_byteAt_22 : decode cX0_byteAt 22 = .ok (.iand, 1) := by decide +kernel
theorem dX0_byteAt_23 : decode cX0_byteAt 23 = .ok (.goto 4, 3) := by decide +kernel
theorem dX0_byteAt_26 : decode cX0_byteAt 26 = .ok (.iconst (-1), 1) := by decide +kernel
theorem dX0_byteAt_27 : decode cX0_byteAt 27 = .ok (.ireturn, 1) := by decide +kernel
theorem dX0_wordAt_0 : decode cX0_wordAt 0 = .ok (.iload_n 1, 1) := by decide +kernel
theorem dX0_wordAt_1 : decode cX0_wordAt 1 = .ok (.ifCond .lt 14, 3) := by decide +kernel
theorem dX0_wordAt_4 : decode cX0_wordAt 4 = .ok (.iload_n 1, 1) := by decide +kernel
theorem dX0_wordAt_5 : decode cX0_wordAt 5 = .ok (.aload_n 0, 1) := by decide +kernel
theorem dX0_wordAt_6 : decode cX0_wordAt 6 = .ok (.getfield 9, 3) := by decide +kernel
theorem dX0_wordAt_9 : decode cX0_wordAt 9 = .ok (.arraylength, 1) := by decide +kernel
theorem dX0_wordAt_10 : decode cX0_wordAt 10 = .ok (.iconst 1, 1) := by decide +kernel
theorem dX0_wordAt_11 : decode cX0_wordAt 11 = .ok (.isub, 1) := by decide +kernel
theorem dX0_wordAt_12 : decode cX0_wordAt 12 = .ok (.if_icmp .lt 5, 3) := by decide +kernel
theorem dX0_wordAt_15 : decode cX0_wordAt 15 = .ok (.iconst 0, 1) := by decide +kernel
theorem dX0_wordAt_16 : decode cX0_wordAt 16 = .ok (.ireturn, 1) := by decide +kernel
theorem dX0_wordAt_17 : decode cX0_wordAt 17 = .ok (.aload_n 0, 1) := by decide +kernel
theorem dX0_wordAt_18 : decode cX0_wordAt 18 = .ok (.getfield 9, 3) := by decide +kernel
theorem dX0_wordAt_21 : decode cX0_wordAt 21 = .ok (.iload_n 1, 1) := by decide +kernel
theorem dX0_wordAt_22 : decode cX0_wordAt 22 = .ok (.baload, 1) := by decide +kernel
theorem dX0_wordAt_23 : decode cX0_wordAt 23 = .ok (.sipush 255, 3) := by decide +kernel
theorem dX0_wordAt_26 : decode cX0_wordAt 26 = .ok (.iand, 1) := by decide +kernel
theorem dX0_wordAt_27 : decode cX0_wordAt 27 = .ok (.aload_n 0, 1) := by decide +kernel
theorem dX0_wordAt_28 : decode cX0_wordAt 28 = .ok (.getfield 9, 3) := by decide +kernel
theorem dX0_wordAt_31 : decode cX0_wordAt 31 = .ok (.iload_n 1, 1) := by decide +kernel
theorem dX0_wordAt_32 : decode cX0_wordAt 32 = .ok (.iconst 1, 1) := by decide +kernel
theorem dX0_wordAt_33 : decode cX0_wordAt 33 = .ok (.iadd, 1) := by decide +kernel
theorem dX0_wordAt_34 : decode cX0_wordAt 34 = .ok (.baload, 1) := by decide +kernel
theorem dX0_wordAt_35 : decode cX0_wordAt 35 = .ok (.sipush 255, 3) := by decide +kernel
theorem dX0_wordAt_38 : decode cX0_wordAt 38 = .ok (.iand, 1) := by decide +kernel
theorem dX0_wordAt_39 : decode cX0_wordAt 39 = .ok (.bipush 8, 2) := by decide +kernel
theorem dX0_wordAt_41 : decode cX0_wordAt 41 = .ok (.ishl, 1) := by decide +kernel
theorem dX0_wordAt_42 : decode cX0_wordAt 42 = .ok (.ior, 1) := by decide +kernel
theorem dX0_wordAt_43 : decode cX0_wordAt 43 = .ok (.ireturn, 1) := by decide +kernel
theorem dX0_put_0 : decode cX0_put 0 = .ok (.iload 4, 2) := by decide +kernel
theorem dX0_put_2 : decode cX0_put 2 = .ok (.iconst 1, 1) := by decide +kernel
theorem dX0_put_3 : decode cX0_put 3 = .ok (.if_icmp .lt 26, 3) := by decide +kernel
theorem dX0_put_6 : decode cX0_put 6 = .ok (.iload 4, 2) := by decide +kernel
theorem dX0_put_8 : decode cX0_put 8 = .ok (.bipush 8, 2) := by decide +kernel
theorem dX0_put_10 : decode cX0_put 10 = .ok (.if_icmp .gt 19, 3) := by decide +kernel
theorem dX0_put_13 : decode cX0_put 13 = .ok (.iload_n 1, 1) := by decide +kernel
theorem dX0_put_14 : decode cX0_put 14 = .ok (.ifCond .lt 15, 3) := by decide +kernel
theorem dX0_put_17 : decode cX0_put 17 = .ok (.iload_n 1, 1) := by decide +kernel
theorem dX0_put_18 : decode cX0_put 18 = .ok (.aload_n 0, 1) := by decide +kernel
theorem dX0_put_19 : decode cX0_put 19 = .ok (.getfield 9, 3) := by decide +kernel
theorem dX0_put_22 : decode cX0_put 22 = .ok (.arraylength, 1) := by decide +kernel
theorem dX0_put_23 : decode cX0_put 23 = .ok (.iload 4, 2) := by decide +kernel
theorem dX0_put_25 : decode cX0_put 25 = .ok (.isub, 1) := by decide +kernel
theorem dX0_put_26 : decode cX0_put 26 = .ok (.if_icmp .le 5, 3) := by decide +kernel
theorem dX0_put_29 : decode cX0_put 29 = .ok (.iconst 0, 1) := by decide +kernel
theorem dX0_put_30 : decode cX0_put 30 = .ok (.ireturn, 1) := by decide +kernel
theorem dX0_put_31 : decode cX0_put 31 = .ok (.iconst 0, 1) := by decide +kernel
theorem dX0_put_32 : decode cX0_put 32 = .ok (.istore 5, 2) := by decide +kernel
theorem dX0_put_34 : decode cX0_put 34 = .ok (.iload 5, 2) := by decide +kernel
theorem dX0_put_36 : decode cX0_put 36 = .ok (.iload 4, 2) := by decide +kernel
theorem dX0_put_38 : decode cX0_put 38 = .ok (.if_icmp .ge 27, 3) := by decide +kernel
theorem dX0_put_41 : decode cX0_put 41 = .ok (.aload_n 0, 1) := by decide +kernel
theorem dX0_put_42 : decode cX0_put 42 = .ok (.getfield 9, 3) := by decide +kernel
theorem dX0_put_45 : decode cX0_put 45 = .ok (.iload_n 1, 1) := by decide +kernel
theorem dX0_put_46 : decode cX0_put 46 = .ok (.iload 5, 2) := by decide +kernel
theorem dX0_put_48 : decode cX0_put 48 = .ok (.iadd, 1) := by decide +kernel
theorem dX0_put_49 : decode cX0_put 49 = .ok (.lload_n 2, 1) := by decide +kernel
theorem dX0_put_50 : decode cX0_put 50 = .ok (.bipush 8, 2) := by decide +kernel
theorem dX0_put_52 : decode cX0_put 52 = .ok (.iload 5, 2) := by decide +kernel
theorem dX0_put_54 : decode cX0_put 54 = .ok (.imul, 1) := by decide +kernel
theorem dX0_put_55 : decode cX0_put 55 = .ok (.lshr, 1) := by decide +kernel
theorem dX0_put_56 : decode cX0_put 56 = .ok (.l2i, 1) := by decide +kernel
theorem dX0_put_57 : decode cX0_put 57 = .ok (.i2b, 1) := by decide +kernel
theorem dX0_put_58 : decode cX0_put 58 = .ok (.bastore, 1) := by decide +kernel
theorem dX0_put_59 : decode cX0_put 59 = .ok (.iinc 5 1, 3) := by decide +kernel
theorem dX0_put_62 : decode cX0_put 62 = .ok (.goto (-28), 3) := by decide +kernel
theorem dX0_put_65 : decode cX0_put 65 = .ok (.iconst 1, 1) := by decide +kernel
theorem dX0_put_66 : decode cX0_put 66 = .ok (.ireturn, 1) := by decide +kernel
set_option maxRecDepth 20000 in
theorem ggX0_clear_J7_fill_031fb : GoodIn wsX0_clear wsJ7_fill_031fb := goodIn_r _ [5] (by decide +kernel) (by decide +kernel)
set_option maxRecDepth 20000 in
theorem gX0_clear_J7_fill_031fb : GoodIn wsX0_clear (va_wsS RX0 15 yJ7_fill_031fb wsJ7_fill_031fb) := goodIn_app (goodIn_of _ (by decide +kernel)) ggX0_clear_J7_fill_031fb
theorem dX0_clear_0 : decode cX0_clear 0 = .ok (.aload_n 0, 1) := by decide +kernel
theorem dX0_clear_1 : decode cX0_clear 1 = .ok (.getfield 9, 3) := by decide +kernel
theorem dX0_clear_4 : decode cX0_clear 4 = .ok (.iconst 0, 1) := by decide +kernel
theorem dX0_clear_5 : decode cX0_clear 5 = .ok (.invokestatic 15, 3) := by decide +kernel
theorem dX0_clear_8 : decode cX0_clear 8 = .ok (.return_, 1) := by decide +kernel
set_option maxRecDepth 20000 in
theorem ggX1_init_X2_init : GoodIn wsX1_init wsX2_init := goodIn_r _ [11, 12, 2, 3, 13, 14, 15, 16, 21, 22, 23, 24, 25] (by decide +kernel) (by decide +kernel)
set_option maxRecDepth 20000 in
theorem gX1_init_X2_init : GoodIn wsX1_init (wsX2_init) := ggX1_init_X2_init
theorem dX1_init_0 : decode cX1_init 0 = .ok (.aload_n 0, 1) := by decide +kernel
theorem dX1_init_1 : decode cX1_init 1 = .ok (.invokespecial 3, 3) := by decide +kernel
theorem dX1_init_4 : decode cX1_init 4 = .ok (.aload_n 0, 1) := by decide +kernel
theorem dX1_init_5 : decode cX1_init 5 = .ok (.aload_n 2, 1) := by decide +kernel
theorem dX1_init_6 : decode cX1_init 6 = .ok (.putfield 9, 3) := by decide +kernel
theorem dX1_init_9 : decode cX1_init 9 = .ok (.aload_n 0, 1) := by decide +kernel
theorem dX1_init_10 : decode cX1_init 10 = .ok (.iconst 5, 1) := by decide +kernel
theorem dX1_init_11 : decode cX1_init 11 = .ok (.anewarray 15, 3) := by decide +kernel
theorem dX1_init_14 : decode cX1_init 14 = .ok (.putfield 17, 3) := by decide +kernel
theorem dX1_init_17 : decode cX1_init 17 = .ok (.iconst 0, 1) := by decide +kernel
theorem dX1_init_18 : decode cX1_init 18 = .ok (.istore_n 3, 1) := by decide +kernel
theorem dX1_init_19 : decode cX1_init 19 = .ok (.iload_n 3, 1) := by decide +kernel
theorem dX1_init_20 : decode cX1_init 20 = .ok (.iconst 5, 1) := by decide +kernel
theorem dX1_init_21 : decode cX1_init 21 = .ok (.if_icmp .ge 24, 3) := by decide +kernel
theorem dX1_init_24 : decode cX1_init 24 = .ok (.aload_n 0, 1) := by decide +kernel
theorem dX1_init_25 : decode cX1_init 25 = .ok (.getfield 17, 3) := by decide +kernel
theorem dX1_init_28 : decode cX1_init 28 = .ok (.iload_n 3, 1) := by decide +kernel
theorem dX1_init_29 : decode cX1_init 29 = .ok (.new 15, 3) := by decide +kernel
theorem dX1_init_32 : decode cX1_init 32 = .ok (.dup, 1) := by decide +kernel
theorem dX1_init_33 : decode cX1_init 33 = .ok (.aload_n 1, 1) := by decide +kernel
theorem dX1_init_34 : decode cX1_init 34 = .ok (.aload_n 2, 1) := by decide +kernel
theorem dX1_init_35 : decode cX1_init 35 = .ok (.invokespecial 21, 3) := by decide +kernel
theorem dX1_init_38 : decode cX1_init 38 = .ok (.aastore, 1) := by decide +kernel
theorem dX1_init_39 : decode cX1_init 39 = .ok (.iinc 3 1, 3) := by decide +kernel
theorem dX1_init_42 : decode cX1_init 42 = .ok (.goto (-23), 3) := by decide +kernel
theorem dX1_init_45 : decode cX1_init 45 = .ok (.return_, 1) := by decide +kernel
set_option maxRecDepth 20000 in
theorem ggX1_countAll_X1_countDirectory : GoodIn wsX1_countAll wsX1_countDirectory := goodIn_r _ [9, 10, 11, 12, 13, 14, 15, 16, 17, 18, 19, 20, 21, 22, 23, 24, 25, 26, 27, 28, 29, 30, 31, 32, 33, 34, 35, 36, 37, 38, 39, 40, 41, 42, 43, 44, 45, 46, 47, 48, 49, 50, 51, 52, 53, 54, 55, 56, 57, 58, 59, 60, 61, 62, 63, 64, 65, 66, 67, 68, 69, 70, 71, 72, 73, 8, 74, 1, 3, 2, 75, 76, 77, 78, 79, 80, 81, 82, 83, 5, 6, 7, 84, 85, 86, 87, 97, 98, 99, 100, 101, 88, 89, 90, 91, 92, 93, 94, 95, 96, 102] (by decide +kernel) (by decide +kernel)
set_option maxRecDepth 20000 in
theorem gX1_countAll_X1_countDirectory : GoodIn wsX1_countAll (wsV RX1 36 RX1 yX1_countDirectory wsX1_countDirectory) := goodIn_app (goodIn_of _ (by decide +kernel)) ggX1_countAll_X1_countDirectory
theorem dX1_countAll_0 : decode cX1_countAll 0 = .ok (.aload_n 0, 1) := by decide +kernel
theorem dX1_countAll_1 : decode cX1_countAll 1 = .ok (.iconst 0, 1) := by decide +kernel
theorem dX1_countAll_2 : decode cX1_countAll 2 = .ok (.putfield 24, 3) := by decide +kernel
theorem dX1_countAll_5 : decode cX1_countAll 5 = .ok (.aload_n 0, 1) := by decide +kernel
theorem dX1_countAll_6 : decode cX1_countAll 6 = .ok (.iconst 0, 1) := by decide +kernel
theorem dX1_countAll_7 : decode cX1_countAll 7 = .ok (.putfield 28, 3) := by decide +kernel
theorem dX1_countAll_10 : decode cX1_countAll 10 = .ok (.aload_n 0, 1) := by decide +kernel
theorem dX1_countAll_11 : decode cX1_countAll 11 = .ok (.aload_n 0, 1) := by decide +kernel
theorem dX1_countAll_12 : decode cX1_countAll 12 = .ok (.getfield 9, 3) := by decide +kernel
theorem dX1_countAll_15 : decode cX1_countAll 15 = .ok (.getfield 31, 3) := by decide +kernel
theorem dX1_countAll_18 : decode cX1_countAll 18 = .ok (.iconst 0, 1) := by decide +kernel
theorem dX1_countAll_19 : decode cX1_countAll 19 = .ok (.invokevirtual 36, 3) := by decide +kernel
theorem dX1_countAll_22 : decode cX1_countAll 22 = .ok (.istore_n 1, 1) := by decide +kernel
theorem dX1_countAll_23 : decode cX1_countAll 23 = .ok (.iload_n 1, 1) := by decide +kernel
theorem dX1_countAll_24 : decode cX1_countAll 24 = .ok (.ifCond .ge 7, 3) := by decide +kernel
theorem dX1_countAll_27 : decode cX1_countAll 27 = .ok (.iload_n 1, 1) := by decide +kernel
theorem dX1_countAll_28 : decode cX1_countAll 28 = .ok (.goto 21, 3) := by decide +kernel
theorem dX1_countAll_31 : decode cX1_countAll 31 = .ok (.aload_n 0, 1) := by decide +kernel
theorem dX1_countAll_32 : decode cX1_countAll 32 = .ok (.getfield 24, 3) := by decide +kernel
theorem dX1_countAll_35 : decode cX1_countAll 35 = .ok (.aload_n 0, 1) := by decide +kernel
theorem dX1_countAll_36 : decode cX1_countAll 36 = .ok (.getfield 28, 3) := by decide +kernel
theorem dX1_countAll_39 : decode cX1_countAll 39 = .ok (.isub, 1) := by decide +kernel
theorem dX1_countAll_40 : decode cX1_countAll 40 = .ok (.sipush 1000, 3) := by decide +kernel
theorem dX1_countAll_43 : decode cX1_countAll 43 = .ok (.aload_n 0, 1) := by decide +kernel
theorem dX1_countAll_44 : decode cX1_countAll 44 = .ok (.getfield 28, 3) := by decide +kernel
theorem dX1_countAll_47 : decode cX1_countAll 47 = .ok (.imul, 1) := by decide +kernel
theorem dX1_countAll_48 : decode cX1_countAll 48 = .ok (.iadd, 1) := by decide +kernel
theorem dX1_countAll_49 : decode cX1_countAll 49 = .ok (.ireturn, 1) := by decide +kernel
set_option maxRecDepth 20000 in
theorem ggX1_countDirectory_X2_trace : GoodIn wsX1_countDirectory wsX2_trace := goodIn_r _ [6, 7, 8, 9, 10, 11, 12, 13, 14, 15, 16, 17, 18, 19, 20, 21, 22, 23, 24, 25, 26, 27, 28, 29, 30, 31, 32, 33, 34, 35, 36, 37, 38, 39, 40, 41, 42, 43, 86, 87, 88, 89, 90, 91, 92, 93, 94, 95, 96, 97, 98, 99, 100] (by decide +kernel) (by decide +kernel)
set_option maxRecDepth 20000 in
theorem gX1_countDirectory_X2_trace : GoodIn wsX1_countDirectory (wsV RX1 40 RX2 yX2_trace wsX2_trace) := goodIn_app (goodIn_of _ (by decide +kernel)) ggX1_countDirectory_X2_trace
set_option maxRecDepth 20000 in
theorem ggX1_countDirectory_X2_nextEntry : GoodIn wsX1_countDirectory wsX2_nextEntry := goodIn_r _ [47, 8, 48, 49, 50, 51, 5, 52, 7, 9, 53, 54, 55, 56, 57, 11, 58, 59, 60, 35, 61, 37, 86, 87, 88, 89, 90, 91, 92, 93, 94, 95, 96, 97, 98, 99, 100] (by decide +kernel) (by decide +kernel)
set_option maxRecDepth 20000 in
theorem gX1_countDirectory_X2_nextEntry : GoodIn wsX1_countDirectory (wsV RX1 44 RX2 yX2_nextEntry wsX2_nextEntry) := goodIn_app (goodIn_of _ (by decide +kernel)) ggX1_countDirectory_X2_nextEntry
set_option maxRecDepth 20000 in
theorem ggX1_countDirectory_X1_countEntry : GoodIn wsX1_countDirectory wsX1_countEntry := goodIn_r _ [66, 67, 68, 69, 70, 71, 72, 15, 73, 29, 74, 59, 60, 35, 61, 37, 75, 76, 77, 78, 79, 80, 81, 65, 0, 1, 2, 3, 4, 5, 6, 7, 8, 9, 10, 11, 12, 13, 14, 16, 17, 18, 19, 20, 21, 22, 23, 24, 25, 26, 27, 28, 30, 31, 32, 33, 34, 36, 38, 39, 40, 41, 42, 43, 44, 45, 46, 47, 48, 49, 50, 51, 52, 53, 54, 55, 56, 57, 58, 62, 63, 64, 82, 83, 84, 85, 86, 87, 88, 89, 90, 91, 92, 93, 94, 95, 96, 97, 98, 99, 100] (by decide +kernel) (by decide +kernel)
set_option maxRecDepth 20000 in
theorem gX1_countDirectory_X1_countEntry : GoodIn wsX1_countDirectory (wsV RX1 48 RX1 yX1_countEntry wsX1_countEntry) := goodIn_app (goodIn_of _ (by decide +kernel)) ggX1_countDirectory_X1_countEntry
theorem dX1_countDirectory_0 : decode cX1_countDirectory 0 = .ok (.iload_n 2, 1) := by decide +kernel
theorem dX1_countDirectory_1 : decode cX1_countDirectory 1 = .ok (.iconst 5, 1) := by decide +kernel
theorem dX1_countDirectory_2 : decode cX1_countDirectory 2 = .ok (.if_icmp .lt 6, 3) := by decide +kernel
theorem dX1_countDirectory_5 : decode cX1_countDirectory 5 = .ok (.bipush (-13), 2) := by decide +kernel
theorem dX1_countDirectory_7 : decode cX1_countDirectory 7 = .ok (.ireturn, 1) := by decide +kernel
theorem dX1_countDirectory_8 : decode cX1_countDirectory 8 = .ok (.aload_n 0, 1) := by decide +kernel
theorem dX1_countDirectory_9 : decode cX1_countDirectory 9 = .ok (.getfield 17, 3) := by decide +kernel
theorem dX1_countDirectory_12 : decode cX1_countDirectory 12 = .ok (.iload_n 2, 1) := by decide +kernel
theorem dX1_countDirectory_13 : decode cX1_countDirectory 13 = .ok (.aaload, 1) := by decide +kernel
theorem dX1_countDirectory_14 : decode cX1_countDirectory 14 = .ok (.astore_n 3, 1) := by decide +kernel
theorem dX1_countDirectory_15 : decode cX1_countDirectory 15 = .ok (.aload_n 3, 1) := by decide +kernel
theorem dX1_countDirectory_16 : decode cX1_countDirectory 16 = .ok (.iload_n 1, 1) := by decide +kernel
theorem dX1_countDirectory_17 : decode cX1_countDirectory 17 = .ok (.invokevirtual 40, 3) := by decide +kernel
theorem dX1_countDirectory_20 : decode cX1_countDirectory 20 = .ok (.ifCond .ne 6, 3) := by decide +kernel
theorem dX1_countDirectory_23 : decode cX1_countDirectory 23 = .ok (.bipush (-9), 2) := by decide +kernel
theorem dX1_countDirectory_25 : decode cX1_countDirectory 25 = .ok (.ireturn, 1) := by decide +kernel
theorem dX1_countDirectory_26 : decode cX1_countDirectory 26 = .ok (.iconst 0, 1) := by decide +kernel
theorem dX1_countDirectory_27 : decode cX1_countDirectory 27 = .ok (.istore 4, 2) := by decide +kernel
theorem dX1_countDirectory_29 : decode cX1_countDirectory 29 = .ok (.iload 4, 2) := by decide +kernel
theorem dX1_countDirectory_31 : decode cX1_countDirectory 31 = .ok (.sipush 256, 3) := by decide +kernel
theorem dX1_countDirectory_34 : decode cX1_countDirectory 34 = .ok (.if_icmp .ge 39, 3) := by decide +kernel
theorem dX1_countDirectory_37 : decode cX1_countDirectory 37 = .ok (.aload_n 3, 1) := by decide +kernel
theorem dX1_countDirectory_38 : decode cX1_countDirectory 38 = .ok (.invokevirtual 44, 3) := by decide +kernel
theorem dX1_countDirectory_41 : decode cX1_countDirectory 41 = .ok (.istore 5, 2) := by decide +kernel
theorem dX1_countDirectory_43 : decode cX1_countDirectory 43 = .ok (.iload 5, 2) := by decide +kernel
theorem dX1_countDirectory_45 : decode cX1_countDirectory 45 = .ok (.ifCond .ge 5, 3) := by decide +kernel
theorem dX1_countDirectory_48 : decode cX1_countDirectory 48 = .ok (.iconst 0, 1) := by decide +kernel
theorem dX1_countDirectory_49 : decode cX1_countDirectory 49 = .ok (.ireturn, 1) := by decide +kernel
theorem dX1_countDirectory_50 : decode cX1_countDirectory 50 = .ok (.aload_n 0, 1) := by decide +kernel
theorem dX1_countDirectory_51 : decode cX1_countDirectory 51 = .ok (.iload 5, 2) := by decide +kernel
theorem dX1_countDirectory_53 : decode cX1_countDirectory 53 = .ok (.iload_n 2, 1) := by decide +kernel
theorem dX1_countDirectory_54 : decode cX1_countDirectory 54 = .ok (.invokevirtual 48, 3) := by decide +kernel
theorem dX1_countDirectory_57 : decode cX1_countDirectory 57 = .ok (.istore 6, 2) := by decide +kernel
theorem dX1_countDirectory_59 : decode cX1_countDirectory 59 = .ok (.iload 6, 2) := by decide +kernel
theorem dX1_countDirectory_61 : decode cX1_countDirectory 61 = .ok (.ifCond .ge 6, 3) := by decide +kernel
theorem dX1_countDirectory_64 : decode cX1_countDirectory 64 = .ok (.iload 6, 2) := by decide +kernel
theorem dX1_countDirectory_66 : decode cX1_countDirectory 66 = .ok (.ireturn, 1) := by decide +kernel
theorem dX1_countDirectory_67 : decode cX1_countDirectory 67 = .ok (.iinc 4 1, 3) := by decide +kernel
theorem dX1_countDirectory_70 : decode cX1_countDirectory 70 = .ok (.goto (-41), 3) := by decide +kernel
theorem dX1_countDirectory_73 : decode cX1_countDirectory 73 = .ok (.iconst 0, 1) := by decide +kernel
theorem dX1_countDirectory_74 : decode cX1_countDirectory 74 = .ok (.ireturn, 1) := by decide +kernel
set_option maxRecDepth 20000 in
theorem ggX1_countEntry_X8_isDirectory : GoodIn wsX1_countEntry wsX8_isDirectory := goodIn_r _ [8, 9, 10, 11, 12, 13, 14, 15, 91, 92, 93, 94, 95, 96, 97, 98, 99, 100] (by decide +kernel) (by decide +kernel)
set_option maxRecDepth 20000 in
theorem gX1_countEntry_X8_isDirectory : GoodIn wsX1_countEntry (wsV RX1 51 RX8 yX8_isDirectory wsX8_isDirectory) := goodIn_app (goodIn_of _ (by decide +kernel)) ggX1_countEntry_X8_isDirectory
set_option maxRecDepth 20000 in
theorem ggX1_countEntry_X8_firstClusterOf : GoodIn wsX1_countEntry wsX8_firstClusterOf := goodIn_r _ [19, 9, 10, 11, 12, 13, 14, 15, 91, 92, 93, 94, 95, 96, 97, 98, 99, 100] (by decide +kernel) (by decide +kernel)
set_option maxRecDepth 20000 in
theorem gX1_countEntry_X8_firstClusterOf : GoodIn wsX1_countEntry (wsV RX1 54 RX8 yX8_firstClusterOf wsX8_firstClusterOf) := goodIn_app (goodIn_of _ (by decide +kernel)) ggX1_countEntry_X8_firstClusterOf
set_option maxRecDepth 20000 in
theorem ggX1_countEntry_X1_countDirectory : GoodIn wsX1_countEntry wsX1_countDirectory := goodIn_r _ [24, 25, 26, 27, 28, 29, 30, 31, 32, 33, 34, 35, 36, 37, 38, 7, 39, 40, 41, 42, 43, 44, 45, 46, 47, 48, 49, 50, 51, 9, 52, 53, 54, 55, 56, 13, 57, 15, 58, 59, 60, 61, 62, 63, 64, 65, 66, 67, 68, 69, 70, 71, 72, 73, 74, 75, 76, 77, 78, 11, 12, 14, 79, 80, 81, 23, 0, 1, 2, 3, 4, 5, 6, 8, 10, 16, 17, 18, 19, 20, 21, 22, 82, 83, 84, 85, 86, 87, 88, 89, 90, 91, 92, 93, 94, 95, 96, 97, 98, 99, 100] (by decide +kernel) (by decide +kernel)
set_option maxRecDepth 20000 in
theorem gX1_countEntry_X1_countDirectory : GoodIn wsX1_countEntry (wsV RX1 36 RX1 yX1_countDirectory wsX1_countDirectory) := goodIn_app (goodIn_of _ (by decide +kernel)) ggX1_countEntry_X1_countDirectory
theorem dX1_countEntry_0 : decode cX1_countEntry 0 = .ok (.aload_n 0, 1) := by decide +kernel
theorem dX1_countEntry_1 : decode cX1_countEntry 1 = .ok (.dup, 1) := by decide +kernel
theorem dX1_countEntry_2 : decode cX1_countEntry 2 = .ok (.getfield 24, 3) := by decide +kernel
theorem dX1_countEntry_5 : decode cX1_countEntry 5 = .ok (.iconst 1, 1) := by decide +kernel
theorem dX1_countEntry_6 : decode cX1_countEntry 6 = .ok (.iadd, 1) := by decide +kernel
theorem dX1_countEntry_7 : decode cX1_countEntry 7 = .ok (.putfield 24, 3) := by decide +kernel
theorem dX1_countEntry_10 : decode cX1_countEntry 10 = .ok (.aload_n 0, 1) := by decide +kernel
theorem dX1_countEntry_11 : decode cX1_countEntry 11 = .ok (.getfield 24, 3) := by decide +kernel
theorem dX1_countEntry_14 : decode cX1_countEntry 14 = .ok (.sipush 250, 3) := by decide +kernel
theorem dX1_countEntry_17 : decode cX1_countEntry 17 = .ok (.if_icmp .le 6, 3) := by decide +kernel
theorem dX1_countEntry_20 : decode cX1_countEntry 20 = .ok (.bipush (-14), 2) := by decide +kernel
theorem dX1_countEntry_22 : decode cX1_countEntry 22 = .ok (.ireturn, 1) := by decide +kernel
theorem dX1_countEntry_23 : decode cX1_countEntry 23 = .ok (.aload_n 0, 1) := by decide +kernel
theorem dX1_countEntry_24 : decode cX1_countEntry 24 = .ok (.getfield 9, 3) := by decide +kernel
theorem dX1_countEntry_27 : decode cX1_countEntry 27 = .ok (.iload_n 1, 1) := by decide +kernel
theorem dX1_countEntry_28 : decode cX1_countEntry 28 = .ok (.invokevirtual 51, 3) := by decide +kernel
theorem dX1_countEntry_31 : decode cX1_countEntry 31 = .ok (.ifCond .ne 5, 3) := by decide +kernel
theorem dX1_countEntry_34 : decode cX1_countEntry 34 = .ok (.iconst 0, 1) := by decide +kernel
theorem dX1_countEntry_35 : decode cX1_countEntry 35 = .ok (.ireturn, 1) := by decide +kernel
theorem dX1_countEntry_36 : decode cX1_countEntry 36 = .ok (.aload_n 0, 1) := by decide +kernel
theorem dX1_countEntry_37 : decode cX1_countEntry 37 = .ok (.dup, 1) := by decide +kernel
theorem dX1_countEntry_38 : decode cX1_countEntry 38 = .ok (.getfield 28, 3) := by decide +kernel
theorem dX1_countEntry_41 : decode cX1_countEntry 41 = .ok (.iconst 1, 1) := by decide +kernel
theorem dX1_countEntry_42 : decode cX1_countEntry 42 = .ok (.iadd, 1) := by decide +kernel
theorem dX1_countEntry_43 : decode cX1_countEntry 43 = .ok (.putfield 28, 3) := by decide +kernel
theorem dX1_countEntry_46 : decode cX1_countEntry 46 = .ok (.aload_n 0, 1) := by decide +kernel
theorem dX1_countEntry_47 : decode cX1_countEntry 47 = .ok (.aload_n 0, 1) := by decide +kernel
theorem dX1_countEntry_48 : decode cX1_countEntry 48 = .ok (.getfield 9, 3) := by decide +kernel
theorem dX1_countEntry_51 : decode cX1_countEntry 51 = .ok (.iload_n 1, 1) := by decide +kernel
theorem dX1_countEntry_52 : decode cX1_countEntry 52 = .ok (.invokevirtual 54, 3) := by decide +kernel
theorem dX1_countEntry_55 : decode cX1_countEntry 55 = .ok (.iload_n 2, 1) := by decide +kernel
theorem dX1_countEntry_56 : decode cX1_countEntry 56 = .ok (.iconst 1, 1) := by decide +kernel
theorem dX1_countEntry_57 : decode cX1_countEntry 57 = .ok (.iadd, 1) := by decide +kernel
theorem dX1_countEntry_58 : decode cX1_countEntry 58 = .ok (.invokevirtual 36, 3) := by decide +kernel
theorem dX1_countEntry_61 : decode cX1_countEntry 61 = .ok (.ireturn, 1) := by decide +kernel
theorem dX2_init_0 : decode cX2_init 0 = .ok (.aload_n 0, 1) := by decide +kernel
theorem dX2_init_1 : decode cX2_init 1 = .ok (.invokespecial 5, 3) := by decide +kernel
theorem dX2_init_4 : decode cX2_init 4 = .ok (.aload_n 0, 1) := by decide +kernel
theorem dX2_init_5 : decode cX2_init 5 = .ok (.aload_n 1, 1) := by decide +kernel
theorem dX2_init_6 : decode cX2_init 6 = .ok (.putfield 11, 3) := by decide +kernel
theorem dX2_init_9 : decode cX2_init 9 = .ok (.aload_n 0, 1) := by decide +kernel
theorem dX2_init_10 : decode cX2_init 10 = .ok (.aload_n 2, 1) := by decide +kernel
theorem dX2_init_11 : decode cX2_init 11 = .ok (.putfield 15, 3) := by decide +kernel
theorem dX2_init_14 : decode cX2_init 14 = .ok (.aload_n 0, 1) := by decide +kernel
theorem dX2_init_15 : decode cX2_init 15 = .ok (.bipush 64, 2) := by decide +kernel
theorem dX2_init_17 : decode cX2_init 17 = .ok (.newarray .int, 2) := by decide +kernel
theorem dX2_init_19 : decode cX2_init 19 = .ok (.putfield 19, 3) := by decide +kernel
theorem dX2_init_22 : decode cX2_init 22 = .ok (.return_, 1) := by decide +kernel
set_option maxRecDepth 20000 in
theorem ggX2_trace_X8_isCluster : GoodIn wsX2_trace wsX8_isCluster := goodIn_r _ [10, 11, 43, 44, 45, 46, 47, 48, 49, 50, 51] (by decide +kernel) (by decide +kernel)
set_option maxRecDepth 20000 in
theorem gX2_trace_X8_isCluster : GoodIn wsX2_trace (wsV RX2 35 RX8 yX8_isCluster wsX8_isCluster) := goodIn_app (goodIn_of _ (by decide +kernel)) ggX2_trace_X8_isCluster
set_option maxRecDepth 20000 in
theorem ggX2_trace_X8_placeOfCluster : GoodIn wsX2_trace wsX8_placeOfCluster := goodIn_r _ [15, 16, 17, 43, 44, 45, 46, 47, 48, 49, 50, 51] (by decide +kernel) (by decide +kernel)
set_option maxRecDepth 20000 in
theorem gX2_trace_X8_placeOfCluster : GoodIn wsX2_trace (wsV RX2 39 RX8 yX8_placeOfCluster wsX8_placeOfCluster) := goodIn_app (goodIn_of _ (by decide +kernel)) ggX2_trace_X8_placeOfCluster
set_option maxRecDepth 20000 in
theorem ggX2_trace_X8_behind : GoodIn wsX2_trace wsX8_behind := goodIn_r _ [21, 22, 23, 24, 25, 26, 27, 28, 29, 30, 31, 32, 7, 8, 9, 10, 11, 33, 34, 35, 36, 43, 44, 45, 46, 47, 48, 49, 50, 51, 52] (by decide +kernel) (by decide +kernel)
set_option maxRecDepth 20000 in
theorem gX2_trace_X8_behind : GoodIn wsX2_trace (wsV RX2 43 RX8 yX8_behind wsX8_behind) := goodIn_app (goodIn_of _ (by decide +kernel)) ggX2_trace_X8_behind
set_option maxRecDepth 20000 in
theorem ggX2_trace_X8_isEnd : GoodIn wsX2_trace wsX8_isEnd := goodIn_r _ [36] (by decide +kernel) (by decide +kernel)
set_option maxRecDepth 20000 in
theorem gX2_trace_X8_isEnd : GoodIn wsX2_trace (wsV RX2 46 RX8 yX8_isEnd wsX8_isEnd) := goodIn_app (goodIn_of _ (by decide +kernel)) ggX2_trace_X8_isEnd
theorem dX2_trace_0 : decode cX2_trace 0 = .ok (.aload_n 0, 1) := by decide +kernel
theorem dX2_trace_1 : decode cX2_trace 1 = .ok (.iconst 0, 1) := by decide +kernel
theorem dX2_trace_2 : decode cX2_trace 2 = .ok (.putfield 23, 3) := by decide +kernel
theorem dX2_trace_5 : decode cX2_trace 5 = .ok (.aload_n 0, 1) := by decide +kernel
theorem dX2_trace_6 : decode cX2_trace 6 = .ok (.iconst 0, 1) := by decide +kernel
theorem dX2_trace_7 : decode cX2_trace 7 = .ok (.putfield 27, 3) := by decide +kernel
theorem dX2_trace_10 : decode cX2_trace 10 = .ok (.iload_n 1, 1) := by decide +kernel
theorem dX2_trace_11 : decode cX2_trace 11 = .ok (.istore_n 2, 1) := by decide +kernel
theorem dX2_trace_12 : decode cX2_trace 12 = .ok (.aload_n 0, 1) := by decide +kernel
theorem dX2_trace_13 : decode cX2_trace 13 = .ok (.getfield 23, 3) := by decide +kernel
theorem dX2_trace_16 : decode cX2_trace 16 = .ok (.aload_n 0, 1) := by decide +kernel
theorem dX2_trace_17 : decode cX2_trace 17 = .ok (.getfield 15, 3) := by decide +kernel
theorem dX2_trace_20 : decode cX2_trace 20 = .ok (.getfield 30, 3) := by decide +kernel
theorem dX2_trace_23 : decode cX2_trace 23 = .ok (.if_icmp .ge 74, 3) := by decide +kernel
theorem dX2_trace_26 : decode cX2_trace 26 = .ok (.aload_n 0, 1) := by decide +kernel
theorem dX2_trace_27 : decode cX2_trace 27 = .ok (.getfield 23, 3) := by decide +kernel
theorem dX2_trace_30 : decode cX2_trace 30 = .ok (.bipush 64, 2) := by decide +kernel
theorem dX2_trace_32 : decode cX2_trace 32 = .ok (.if_icmp .ge 65, 3) := by decide +kernel
theorem dX2_trace_35 : decode cX2_trace 35 = .ok (.aload_n 0, 1) := by decide +kernel
theorem dX2_trace_36 : decode cX2_trace 36 = .ok (.getfield 15, 3) := by decide +kernel
theorem dX2_trace_39 : decode cX2_trace 39 = .ok (.iload_n 2, 1) := by decide +kernel
theorem dX2_trace_40 : decode cX2_trace 40 = .ok (.invokevirtual 35, 3) := by decide +kernel
theorem dX2_trace_43 : decode cX2_trace 43 = .ok (.ifCond .ne 5, 3) := by decide +kernel
theorem dX2_trace_46 : decode cX2_trace 46 = .ok (.iconst 0, 1) := by decide +kernel
theorem dX2_trace_47 : decode cX2_trace 47 = .ok (.ireturn, 1) := by decide +kernel
theorem dX2_trace_48 : decode cX2_trace 48 = .ok (.aload_n 0, 1) := by decide +kernel
theorem dX2_trace_49 : decode cX2_trace 49 = .ok (.getfield 19, 3) := by decide +kernel
theorem dX2_trace_52 : decode cX2_trace 52 = .ok (.aload_n 0, 1) := by decide +kernel
theorem dX2_trace_53 : decode cX2_trace 53 = .ok (.getfield 23, 3) := by decide +kernel
theorem dX2_trace_56 : decode cX2_trace 56 = .ok (.aload_n 0, 1) := by decide +kernel
theorem dX2_trace_57 : decode cX2_trace 57 = .ok (.getfield 15, 3) := by decide +kernel
theorem dX2_trace_60 : decode cX2_trace 60 = .ok (.iload_n 2, 1) := by decide +kernel
theorem dX2_trace_61 : decode cX2_trace 61 = .ok (.invokevirtual 39, 3) := by decide +kernel
theorem dX2_trace_64 : decode cX2_trace 64 = .ok (.iastore, 1) := by decide +kernel
theorem dX2_trace_65 : decode cX2_trace 65 = .ok (.aload_n 0, 1) := by decide +kernel
theorem dX2_trace_66 : decode cX2_trace 66 = .ok (.dup, 1) := by decide +kernel
theorem dX2_trace_67 : decode cX2_trace 67 = .ok (.getfield 23, 3) := by decide +kernel
theorem dX2_trace_70 : decode cX2_trace 70 = .ok (.iconst 1, 1) := by decide +kernel
theorem dX2_trace_71 : decode cX2_trace 71 = .ok (.iadd, 1) := by decide +kernel
theorem dX2_trace_72 : decode cX2_trace 72 = .ok (.putfield 23, 3) := by decide +kernel
theorem dX2_trace_75 : decode cX2_trace 75 = .ok (.aload_n 0, 1) := by decide +kernel
theorem dX2_trace_76 : decode cX2_trace 76 = .ok (.getfield 15, 3) := by decide +kernel
theorem dX2_trace_79 : decode cX2_trace 79 = .ok (.iload_n 2, 1) := by decide +kernel
theorem dX2_trace_80 : decode cX2_trace 80 = .ok (.invokevirtual 43, 3) := by decide +kernel
theorem dX2_trace_83 : decode cX2_trace 83 = .ok (.istore_n 2, 1) := by decide +kernel
theorem dX2_trace_84 : decode cX2_trace 84 = .ok (.aload_n 0, 1) := by decide +kernel
theorem dX2_trace_85 : decode cX2_trace 85 = .ok (.getfield 15, 3) := by decide +kernel
theorem dX2_trace_88 : decode cX2_trace 88 = .ok (.iload_n 2, 1) := by decide +kernel
theorem dX2_trace_89 : decode cX2_trace 89 = .ok (.invokevirtual 46, 3) := by decide +kernel
theorem dX2_trace_92 : decode cX2_trace 92 = .ok (.ifCond .eq (-80), 3) := by decide +kernel
theorem dX2_trace_95 : decode cX2_trace 95 = .ok (.iconst 1, 1) := by decide +kernel
theorem dX2_trace_96 : decode cX2_trace 96 = .ok (.ireturn, 1) := by decide +kernel
theorem dX2_trace_97 : decode cX2_trace 97 = .ok (.iconst 0, 1) := by decide +kernel
theorem dX2_trace_98 : decode cX2_trace 98 = .ok (.ireturn, 1) := by decide +kernel
theorem dX2_bytes_0 : decode cX2_bytes 0 = .ok (.aload_n 0, 1) := by decide +kernel
theorem dX2_bytes_1 : decode cX2_bytes 1 = .ok (.getfield 23, 3) := by decide +kernel
theorem dX2_bytes_4 : decode cX2_bytes 4 = .ok (.aload_n 0, 1) := by decide +kernel
theorem dX2_bytes_5 : decode cX2_bytes 5 = .ok (.getfield 15, 3) := by decide +kernel
theorem dX2_bytes_8 : decode cX2_bytes 8 = .ok (.getfield 49, 3) := by decide +kernel
theorem dX2_bytes_11 : decode cX2_bytes 11 = .ok (.imul, 1) := by decide +kernel
theorem dX2_bytes_12 : decode cX2_bytes 12 = .ok (.ireturn, 1) := by decide +kernel
theorem dX2_placeOf_0 : decode cX2_placeOf 0 = .ok (.aload_n 0, 1) := by decide +kernel
theorem dX2_placeOf_1 : decode cX2_placeOf 1 = .ok (.getfield 15, 3) := by decide +kernel
theorem dX2_placeOf_4 : decode cX2_placeOf 4 = .ok (.getfield 49, 3) := by decide +kernel
theorem dX2_placeOf_7 : decode cX2_placeOf 7 = .ok (.istore_n 2, 1) := by decide +kernel
theorem dX2_placeOf_8 : decode cX2_placeOf 8 = .ok (.iload_n 1, 1) := by decide +kernel
theorem dX2_placeOf_9 : decode cX2_placeOf 9 = .ok (.ifCond .lt 18, 3) := by decide +kernel
theorem dX2_placeOf_12 : decode cX2_placeOf 12 = .ok (.iload_n 2, 1) := by decide +kernel
theorem dX2_placeOf_13 : decode cX2_placeOf 13 = .ok (.iconst 1, 1) := by decide +kernel
theorem dX2_placeOf_14 : decode cX2_placeOf 14 = .ok (.if_icmp .lt 13, 3) := by decide +kernel
theorem dX2_placeOf_17 : decode cX2_placeOf 17 = .ok (.iload_n 1, 1) := by decide +kernel
theorem dX2_placeOf_18 : decode cX2_placeOf 18 = .ok (.iload_n 2, 1) := by decide +kernel
theorem dX2_placeOf_19 : decode cX2_placeOf 19 = .ok (.idiv, 1) := by decide +kernel
theorem dX2_placeOf_20 : decode cX2_placeOf 20 = .ok (.aload_n 0, 1) := by decide +kernel
theorem dX2_placeOf_21 : decode cX2_placeOf 21 = .ok (.getfield 23, 3) := by decide +kernel
theorem dX2_placeOf_24 : decode cX2_placeOf 24 = .ok (.if_icmp .lt 5, 3) := by decide +kernel
theorem dX2_placeOf_27 : decode cX2_placeOf 27 = .ok (.iconst (-1), 1) := by decide +kernel
theorem dX2_placeOf_28 : decode cX2_placeOf 28 = .ok (.ireturn, 1) := by decide +kernel
theorem dX2_placeOf_29 : decode cX2_placeOf 29 = .ok (.aload_n 0, 1) := by decide +kernel
theorem dX2_placeOf_30 : decode cX2_placeOf 30 = .ok (.getfield 19, 3) := by decide +kernel
theorem dX2_placeOf_33 : decode cX2_placeOf 33 = .ok (.iload_n 1, 1) := by decide +kernel
theorem dX2_placeOf_34 : decode cX2_placeOf 34 = .ok (.iload_n 2, 1) := by decide +kernel
theorem dX2_placeOf_35 : decode cX2_placeOf 35 = .ok (.idiv, 1) := by decide +kernel
theorem dX2_placeOf_36 : decode cX2_placeOf 36 = .ok (.iaload, 1) := by decide +kernel
theorem dX2_placeOf_37 : decode cX2_placeOf 37 = .ok (.iload_n 1, 1) := by decide +kernel
theorem dX2_placeOf_38 : decode cX2_placeOf 38 = .ok (.iload_n 2, 1) := by decide +kernel
theorem dX2_placeOf_39 : decode cX2_placeOf 39 = .ok (.irem, 1) := by decide +kernel
theorem dX2_placeOf_40 : decode cX2_placeOf 40 = .ok (.iadd, 1) := by decide +kernel
theorem dX2_placeOf_41 : decode cX2_placeOf 41 = .ok (.ireturn, 1) := by decide +kernel
set_option maxRecDepth 20000 in
theorem ggX2_byteAt_X2_placeOf : GoodIn wsX2_byteAt wsX2_placeOf := goodIn_r _ [6, 7, 8, 9, 10, 17, 18, 19, 20, 21, 22, 23, 24, 25, 26, 27, 28, 29, 30] (by decide +kernel) (by decide +kernel)
set_option maxRecDepth 20000 in
theorem gX2_byteAt_X2_placeOf : GoodIn wsX2_byteAt (wsV RX2 52 RX2 yX2_placeOf wsX2_placeOf) := goodIn_app (goodIn_of _ (by decide +kernel)) ggX2_byteAt_X2_placeOf
set_option maxRecDepth 20000 in
theorem ggX2_byteAt_X0_byteAt : GoodIn wsX2_byteAt wsX0_byteAt := goodIn_r _ [15, 16, 31] (by decide +kernel) (by decide +kernel)
set_option maxRecDepth 20000 in
theorem gX2_byteAt_X0_byteAt : GoodIn wsX2_byteAt (wsV RX2 55 RX0 yX0_byteAt wsX0_byteAt) := goodIn_app (goodIn_of _ (by decide +kernel)) ggX2_byteAt_X0_byteAt
theorem dX2_byteAt_0 : decode cX2_byteAt 0 = .ok (.aload_n 0, 1) := by decide +kernel
theorem dX2_byteAt_1 : decode cX2_byteAt 1 = .ok (.getfield 11, 3) := by decide +kernel
theorem dX2_byteAt_4 : decode cX2_byteAt 4 = .ok (.aload_n 0, 1) := by decide +kernel
theorem dX2_byteAt_5 : decode cX2_byteAt 5 = .ok (.iload_n 1, 1) := by decide +kernel
theorem dX2_byteAt_6 : decode cX2_byteAt 6 = .ok (.invokevirtual 52, 3) := by decide +kernel
theorem dX2_byteAt_9 : decode cX2_byteAt 9 = .ok (.invokevirtual 55, 3) := by decide +kernel
theorem dX2_byteAt_12 : decode cX2_byteAt 12 = .ok (.ireturn, 1) := by decide +kernel
set_option maxRecDepth 20000 in
theorem ggX2_intAt_X2_byteAt : GoodIn wsX2_intAt wsX2_byteAt := goodIn_r _ [5, 6, 7, 8, 9, 4, 10, 11, 12, 13, 14, 15, 16, 17, 18, 19, 20, 21, 22, 23, 24, 25, 26, 27, 28, 29, 30, 31, 32, 33, 34, 35] (by decide +kernel) (by decide +kernel)
set_option maxRecDepth 20000 in
theorem gX2_intAt_X2_byteAt : GoodIn wsX2_intAt (wsV RX2 60 RX2 yX2_byteAt wsX2_byteAt) := goodIn_app (goodIn_of _ (by decide +kernel)) ggX2_intAt_X2_byteAt
theorem dX2_intAt_0 : decode cX2_intAt 0 = .ok (.aload_n 0, 1) := by decide +kernel
theorem dX2_intAt_1 : decode cX2_intAt 1 = .ok (.iload_n 1, 1) := by decide +kernel
theorem dX2_intAt_2 : decode cX2_intAt 2 = .ok (.invokevirtual 60, 3) := by decide +kernel
theorem dX2_intAt_5 : decode cX2_intAt 5 = .ok (.aload_n 0, 1) := by decide +kernel
theorem dX2_intAt_6 : decode cX2_intAt 6 = .ok (.iload_n 1, 1) := by decide +kernel
theorem dX2_intAt_7 : decode cX2_intAt 7 = .ok (.iconst 1, 1) := by decide +kernel
theorem dX2_intAt_8 : decode cX2_intAt 8 = .ok (.iadd, 1) := by decide +kernel
theorem dX2_intAt_9 : decode cX2_intAt 9 = .ok (.invokevirtual 60, 3) := by decide +kernel
theorem dX2_intAt_12 : decode cX2_intAt 12 = .ok (.bipush 8, 2) := by decide +kernel
theorem dX2_intAt_14 : decode cX2_intAt 14 = .ok (.ishl, 1) := by decide +kernel
theorem dX2_intAt_15 : decode cX2_intAt 15 = .ok (.ior, 1) := by decide +kernel
theorem dX2_intAt_16 : decode cX2_intAt 16 = .ok (.aload_n 0, 1) := by decide +kernel
theorem dX2_intAt_17 : decode cX2_intAt 17 = .ok (.iload_n 1, 1) := by decide +kernel
theorem dX2_intAt_18 : decode cX2_intAt 18 = .ok (.iconst 2, 1) := by decide +kernel
theorem dX2_intAt_19 : decode cX2_intAt 19 = .ok (.iadd, 1) := by decide +kernel
theorem dX2_intAt_20 : decode cX2_intAt 20 = .ok (.invokevirtual 60, 3) := by decide +kernel
theorem dX2_intAt_23 : decode cX2_intAt 23 = .ok (.bipush 16, 2) := by decide +kernel
theorem dX2_intAt_25 : decode cX2_intAt 25 = .ok (.ishl, 1) := by decide +kernel
theorem dX2_intAt_26 : decode cX2_intAt 26 = .ok (.ior, 1) := by decide +kernel
theorem dX2_intAt_27 : decode cX2_intAt 27 = .ok (.aload_n 0, 1) := by decide +kernel
theorem dX2_intAt_28 : decode cX2_intAt 28 = .ok (.iload_n 1, 1) := by decide +kernel
theorem dX2_intAt_29 : decode cX2_intAt 29 = .ok (.iconst 3, 1) := by decide +kernel
theorem dX2_intAt_30 : decode cX2_intAt 30 = .ok (.iadd, 1) := by decide +kernel
theorem dX2_intAt_31 : decode cX2_intAt 31 = .ok (.invokevirtual 60, 3) := by decide +kernel
theorem dX2_intAt_34 : decode cX2_intAt 34 = .ok (.bipush 24, 2) := by decide +kernel
theorem dX2_intAt_36 : decode cX2_intAt 36 = .ok (.ishl, 1) := by decide +kernel
theorem dX2_intAt_37 : decode cX2_intAt 37 = .ok (.ior, 1) := by decide +kernel
theorem dX2_intAt_38 : decode cX2_intAt 38 = .ok (.ireturn, 1) := by decide +kernel
set_option maxRecDepth 20000 in
theorem ggX2_nextEntry_X2_bytes : GoodIn wsX2_nextEntry wsX2_bytes := goodIn_r _ [7, 8, 9, 10, 22, 23, 24, 25, 26, 27, 28, 29, 30, 31, 32, 33, 34, 35] (by decide +kernel) (by decide +kernel)
set_option maxRecDepth 20000 in
theorem gX2_nextEntry_X2_bytes : GoodIn wsX2_nextEntry (wsV RX2 61 RX2 yX2_bytes wsX2_bytes) := goodIn_app (goodIn_of _ (by decide +kernel)) ggX2_nextEntry_X2_bytes
set_option maxRecDepth 20000 in
theorem ggX2_nextEntry_X2_placeOf : GoodIn wsX2_nextEntry wsX2_placeOf := goodIn_r _ [14, 9, 10, 8, 15, 22, 23, 24, 25, 26, 27, 28, 29, 30, 31, 32, 33, 34, 35] (by decide +kernel) (by decide +kernel)
set_option maxRecDepth 20000 in
theorem gX2_nextEntry_X2_placeOf : GoodIn wsX2_nextEntry (wsV RX2 52 RX2 yX2_placeOf wsX2_placeOf) := goodIn_app (goodIn_of _ (by decide +kernel)) ggX2_nextEntry_X2_placeOf
set_option maxRecDepth 20000 in
theorem ggX2_nextEntry_X0_byteAt : GoodIn wsX2_nextEntry wsX0_byteAt := goodIn_r _ [20, 21, 36] (by decide +kernel) (by decide +kernel)
set_option maxRecDepth 20000 in
theorem gX2_nextEntry_X0_byteAt : GoodIn wsX2_nextEntry (wsV RX2 55 RX0 yX0_byteAt wsX0_byteAt) := goodIn_app (goodIn_of _ (by decide +kernel)) ggX2_nextEntry_X0_byteAt
theorem dX2_nextEntry_0 : decode cX2_nextEntry 0 = .ok (.aload_n 0, 1) := by decide +kernel
theorem dX2_nextEntry_1 : decode cX2_nextEntry 1 = .ok (.invokevirtual 61, 3) := by decide +kernel
theorem dX2_nextEntry_4 : decode cX2_nextEntry 4 = .ok (.bipush 8, 2) := by decide +kernel
theorem dX2_nextEntry_6 : decode cX2_nextEntry 6 = .ok (.idiv, 1) := by decide +kernel
theorem dX2_nextEntry_7 : decode cX2_nextEntry 7 = .ok (.istore_n 1, 1) := by decide +kernel
theorem dX2_nextEntry_8 : decode cX2_nextEntry 8 = .ok (.aload_n 0, 1) := by decide +kernel
theorem dX2_nextEntry_9 : decode cX2_nextEntry 9 = .ok (.getfield 27, 3) := by decide +kernel
theorem dX2_nextEntry_12 : decode cX2_nextEntry 12 = .ok (.iload_n 1, 1) := by decide +kernel
theorem dX2_nextEntry_13 : decode cX2_nextEntry 13 = .ok (.if_icmp .ge 68, 3) := by decide +kernel
theorem dX2_nextEntry_16 : decode cX2_nextEntry 16 = .ok (.aload_n 0, 1) := by decide +kernel
theorem dX2_nextEntry_17 : decode cX2_nextEntry 17 = .ok (.aload_n 0, 1) := by decide +kernel
theorem dX2_nextEntry_18 : decode cX2_nextEntry 18 = .ok (.getfield 27, 3) := by decide +kernel
theorem dX2_nextEntry_21 : decode cX2_nextEntry 21 = .ok (.bipush 8, 2) := by decide +kernel
theorem dX2_nextEntry_23 : decode cX2_nextEntry 23 = .ok (.imul, 1) := by decide +kernel
theorem dX2_nextEntry_24 : decode cX2_nextEntry 24 = .ok (.invokevirtual 52, 3) := by decide +kernel
theorem dX2_nextEntry_27 : decode cX2_nextEntry 27 = .ok (.istore_n 2, 1) := by decide +kernel
theorem dX2_nextEntry_28 : decode cX2_nextEntry 28 = .ok (.aload_n 0, 1) := by decide +kernel
theorem dX2_nextEntry_29 : decode cX2_nextEntry 29 = .ok (.getfield 11, 3) := by decide +kernel
theorem dX2_nextEntry_32 : decode cX2_nextEntry 32 = .ok (.iload_n 2, 1) := by decide +kernel
theorem dX2_nextEntry_33 : decode cX2_nextEntry 33 = .ok (.invokevirtual 55, 3) := by decide +kernel
theorem dX2_nextEntry_36 : decode cX2_nextEntry 36 = .ok (.istore_n 3, 1) := by decide +kernel
theorem dX2_nextEntry_37 : decode cX2_nextEntry 37 = .ok (.iload_n 3, 1) := by decide +kernel
theorem dX2_nextEntry_38 : decode cX2_nextEntry 38 = .ok (.ifCond .ne 5, 3) := by decide +kernel
theorem dX2_nextEntry_41 : decode cX2_nextEntry 41 = .ok (.iconst (-1), 1) := by decide +kernel
theorem dX2_nextEntry_42 : decode cX2_nextEntry 42 = .ok (.ireturn, 1) := by decide +kernel
theorem dX2_nextEntry_43 : decode cX2_nextEntry 43 = .ok (.aload_n 0, 1) := by decide +kernel
theorem dX2_nextEntry_44 : decode cX2_nextEntry 44 = .ok (.dup, 1) := by decide +kernel
theorem dX2_nextEntry_45 : decode cX2_nextEntry 45 = .ok (.getfield 27, 3) := by decide +kernel
theorem dX2_nextEntry_48 : decode cX2_nextEntry 48 = .ok (.iconst 1, 1) := by decide +kernel
theorem dX2_nextEntry_49 : decode cX2_nextEntry 49 = .ok (.iadd, 1) := by decide +kernel
theorem dX2_nextEntry_50 : decode cX2_nextEntry 50 = .ok (.putfield 27, 3) := by decide +kernel
theorem dX2_nextEntry_53 : decode cX2_nextEntry 53 = .ok (.iload_n 3, 1) := by decide +kernel
theorem dX2_nextEntry_54 : decode cX2_nextEntry 54 = .ok (.sipush 229, 3) := by decide +kernel
theorem dX2_nextEntry_57 : decode cX2_nextEntry 57 = .ok (.if_icmp .eq 21, 3) := by decide +kernel
theorem dX2_nextEntry_60 : decode cX2_nextEntry 60 = .ok (.aload_n 0, 1) := by decide +kernel
theorem dX2_nextEntry_61 : decode cX2_nextEntry 61 = .ok (.getfield 11, 3) := by decide +kernel
theorem dX2_nextEntry_64 : decode cX2_nextEntry 64 = .ok (.iload_n 2, 1) := by decide +kernel
theorem dX2_nextEntry_65 : decode cX2_nextEntry 65 = .ok (.iconst 4, 1) := by decide +kernel
theorem dX2_nextEntry_66 : decode cX2_nextEntry 66 = .ok (.iadd, 1) := by decide +kernel
theorem dX2_nextEntry_67 : decode cX2_nextEntry 67 = .ok (.invokevirtual 55, 3) := by decide +kernel
theorem dX2_nextEntry_70 : decode cX2_nextEntry 70 = .ok (.bipush 8, 2) := by decide +kernel
theorem dX2_nextEntry_72 : decode cX2_nextEntry 72 = .ok (.iand, 1) := by decide +kernel
theorem dX2_nextEntry_73 : decode cX2_nextEntry 73 = .ok (.ifCond .ne 5, 3) := by decide +kernel
theorem dX2_nextEntry_76 : decode cX2_nextEntry 76 = .ok (.iload_n 2, 1) := by decide +kernel
theorem dX2_nextEntry_77 : decode cX2_nextEntry 77 = .ok (.ireturn, 1) := by decide +kernel
theorem dX2_nextEntry_78 : decode cX2_nextEntry 78 = .ok (.goto (-70), 3) := by decide +kernel
theorem dX2_nextEntry_81 : decode cX2_nextEntry 81 = .ok (.iconst (-1), 1) := by decide +kernel
theorem dX2_nextEntry_82 : decode cX2_nextEntry 82 = .ok (.ireturn, 1) := by decide +kernel
set_option maxRecDepth 20000 in
theorem ggX3_init_X2_init : GoodIn wsX3_init wsX2_init := goodIn_r _ [13, 14, 2, 3, 15, 16, 17, 18, 23, 24, 25, 26, 27] (by decide +kernel) (by decide +kernel)
set_option maxRecDepth 20000 in
theorem gX3_init_X2_init : GoodIn wsX3_init (wsX2_init) := ggX3_init_X2_init
theorem dX3_init_0 : decode cX3_init 0 = .ok (.aload_n 0, 1) := by decide +kernel
theorem dX3_init_1 : decode cX3_init 1 = .ok (.invokespecial 3, 3) := by decide +kernel
theorem dX3_init_4 : decode cX3_init 4 = .ok (.aload_n 0, 1) := by decide +kernel
theorem dX3_init_5 : decode cX3_init 5 = .ok (.aload_n 1, 1) := by decide +kernel
theorem dX3_init_6 : decode cX3_init 6 = .ok (.putfield 9, 3) := by decide +kernel
theorem dX3_init_9 : decode cX3_init 9 = .ok (.aload_n 0, 1) := by decide +kernel
theorem dX3_init_10 : decode cX3_init 10 = .ok (.aload_n 2, 1) := by decide +kernel
theorem dX3_init_11 : decode cX3_init 11 = .ok (.putfield 15, 3) := by decide +kernel
theorem dX3_init_14 : decode cX3_init 14 = .ok (.aload_n 0, 1) := by decide +kernel
theorem dX3_init_15 : decode cX3_init 15 = .ok (.new 19, 3) := by decide +kernel
theorem dX3_init_18 : decode cX3_init 18 = .ok (.dup, 1) := by decide +kernel
theorem dX3_init_19 : decode cX3_init 19 = .ok (.aload_n 1, 1) := by decide +kernel
theorem dX3_init_20 : decode cX3_init 20 = .ok (.aload_n 2, 1) := by decide +kernel
theorem dX3_init_21 : decode cX3_init 21 = .ok (.invokespecial 21, 3) := by decide +kernel
theorem dX3_init_24 : decode cX3_init 24 = .ok (.putfield 24, 3) := by decide +kernel
theorem dX3_init_27 : decode cX3_init 27 = .ok (.aload_n 0, 1) := by decide +kernel
theorem dX3_init_28 : decode cX3_init 28 = .ok (.new 19, 3) := by decide +kernel
theorem dX3_init_31 : decode cX3_init 31 = .ok (.dup, 1) := by decide +kernel
theorem dX3_init_32 : decode cX3_init 32 = .ok (.aload_n 1, 1) := by decide +kernel
theorem dX3_init_33 : decode cX3_init 33 = .ok (.aload_n 2, 1) := by decide +kernel
theorem dX3_init_34 : decode cX3_init 34 = .ok (.invokespecial 21, 3) := by decide +kernel
theorem dX3_init_37 : decode cX3_init 37 = .ok (.putfield 28, 3) := by decide +kernel
theorem dX3_init_40 : decode cX3_init 40 = .ok (.return_, 1) := by decide +kernel
set_option maxRecDepth 20000 in
theorem ggX3_find_X8_isDirectory : GoodIn wsX3_find wsX8_isDirectory := goodIn_r _ [9, 10, 11, 12, 13, 14, 15, 16, 91, 92, 93, 94, 95, 96, 97, 98, 99, 102] (by decide +kernel) (by decide +kernel)
set_option maxRecDepth 20000 in
theorem gX3_find_X8_isDirectory : GoodIn wsX3_find (wsV RX3 42 RX8 yX8_isDirectory wsX8_isDirectory) := goodIn_app (goodIn_of _ (by decide +kernel)) ggX3_find_X8_isDirectory
set_option maxRecDepth 20000 in
theorem ggX3_find_X8_firstClusterOf : GoodIn wsX3_find wsX8_firstClusterOf := goodIn_r _ [20, 10, 11, 12, 13, 14, 15, 16, 91, 92, 93, 94, 95, 96, 97, 98, 99, 102] (by decide +kernel) (by decide +kernel)
set_option maxRecDepth 20000 in
theorem gX3_find_X8_firstClusterOf : GoodIn wsX3_find (wsV RX3 46 RX8 yX8_firstClusterOf wsX8_firstClusterOf) := goodIn_app (goodIn_of _ (by decide +kernel)) ggX3_find_X8_firstClusterOf
set_option maxRecDepth 20000 in
theorem ggX3_find_X2_trace : GoodIn wsX3_find wsX2_trace := goodIn_r _ [25, 26, 27, 28, 29, 30, 31, 32, 33, 8, 34, 35, 36, 37, 38, 39, 40, 41, 42, 43, 44, 45, 46, 10, 47, 48, 49, 50, 51, 14, 52, 16, 53, 54, 55, 56, 57, 58, 103, 104, 105, 106, 107, 91, 92, 93, 94, 95, 96, 97, 98, 99, 102] (by decide +kernel) (by decide +kernel)
set_option maxRecDepth 20000 in
theorem gX3_find_X2_trace : GoodIn wsX3_find (wsV RX3 50 RX2 yX2_trace wsX2_trace) := goodIn_app (goodIn_of _ (by decide +kernel)) ggX3_find_X2_trace
set_option maxRecDepth 20000 in
theorem ggX3_find_X3_findName : GoodIn wsX3_find wsX3_findName := goodIn_r _ [63, 4, 64, 65, 66, 67, 24, 68, 27, 69, 70, 71, 72, 73, 26, 28, 74, 75, 76, 77, 78, 30, 79, 12, 13, 14, 15, 16, 80, 81, 82, 83, 84, 85, 86, 87, 88, 89, 90, 103, 104, 105, 106, 107, 91, 92, 93, 94, 95, 96, 97, 98, 99, 102, 100, 101] (by decide +kernel) (by decide +kernel)
set_option maxRecDepth 20000 in
theorem gX3_find_X3_findName : GoodIn wsX3_find (wsV RX3 53 RX3 yX3_findName wsX3_findName) := goodIn_app (goodIn_of _ (by decide +kernel)) ggX3_find_X3_findName
theorem dX3_find_0 : decode cX3_find 0 = .ok (.aload_n 0, 1) := by decide +kernel
theorem dX3_find_1 : decode cX3_find 1 = .ok (.getfield 15, 3) := by decide +kernel
theorem dX3_find_4 : decode cX3_find 4 = .ok (.getfield 31, 3) := by decide +kernel
theorem dX3_find_7 : decode cX3_find 7 = .ok (.istore_n 2, 1) := by decide +kernel
theorem dX3_find_8 : decode cX3_find 8 = .ok (.bipush (-6), 2) := by decide +kernel
theorem dX3_find_10 : decode cX3_find 10 = .ok (.istore_n 3, 1) := by decide +kernel
theorem dX3_find_11 : decode cX3_find 11 = .ok (.iconst 0, 1) := by decide +kernel
theorem dX3_find_12 : decode cX3_find 12 = .ok (.istore 4, 2) := by decide +kernel
theorem dX3_find_14 : decode cX3_find 14 = .ok (.iload 4, 2) := by decide +kernel
theorem dX3_find_16 : decode cX3_find 16 = .ok (.aload_n 1, 1) := by decide +kernel
theorem dX3_find_17 : decode cX3_find 17 = .ok (.getfield 37, 3) := by decide +kernel
theorem dX3_find_20 : decode cX3_find 20 = .ok (.if_icmp .ge 66, 3) := by decide +kernel
theorem dX3_find_23 : decode cX3_find 23 = .ok (.iload 4, 2) := by decide +kernel
theorem dX3_find_25 : decode cX3_find 25 = .ok (.ifCond .le 26, 3) := by decide +kernel
theorem dX3_find_28 : decode cX3_find 28 = .ok (.aload_n 0, 1) := by decide +kernel
theorem dX3_find_29 : decode cX3_find 29 = .ok (.getfield 15, 3) := by decide +kernel
theorem dX3_find_32 : decode cX3_find 32 = .ok (.iload_n 3, 1) := by decide +kernel
theorem dX3_find_33 : decode cX3_find 33 = .ok (.invokevirtual 42, 3) := by decide +kernel
theorem dX3_find_36 : decode cX3_find 36 = .ok (.ifCond .ne 6, 3) := by decide +kernel
theorem dX3_find_39 : decode cX3_find 39 = .ok (.bipush (-8), 2) := by decide +kernel
theorem dX3_find_41 : decode cX3_find 41 = .ok (.ireturn, 1) := by decide +kernel
theorem dX3_find_42 : decode cX3_find 42 = .ok (.aload_n 0, 1) := by decide +kernel
theorem dX3_find_43 : decode cX3_find 43 = .ok (.getfield 15, 3) := by decide +kernel
theorem dX3_find_46 : decode cX3_find 46 = .ok (.iload_n 3, 1) := by decide +kernel
theorem dX3_find_47 : decode cX3_find 47 = .ok (.invokevirtual 46, 3) := by decide +kernel
theorem dX3_find_50 : decode cX3_find 50 = .ok (.istore_n 2, 1) := by decide +kernel
theorem dX3_find_51 : decode cX3_find 51 = .ok (.aload_n 0, 1) := by decide +kernel
theorem dX3_find_52 : decode cX3_find 52 = .ok (.getfield 24, 3) := by decide +kernel
theorem dX3_find_55 : decode cX3_find 55 = .ok (.iload_n 2, 1) := by decide +kernel
theorem dX3_find_56 : decode cX3_find 56 = .ok (.invokevirtual 50, 3) := by decide +kernel
theorem dX3_find_59 : decode cX3_find 59 = .ok (.ifCond .ne 6, 3) := by decide +kernel
theorem dX3_find_62 : decode cX3_find 62 = .ok (.bipush (-9), 2) := by decide +kernel
theorem dX3_find_64 : decode cX3_find 64 = .ok (.ireturn, 1) := by decide +kernel
theorem dX3_find_65 : decode cX3_find 65 = .ok (.aload_n 0, 1) := by decide +kernel
theorem dX3_find_66 : decode cX3_find 66 = .ok (.aload_n 1, 1) := by decide +kernel
theorem dX3_find_67 : decode cX3_find 67 = .ok (.iload 4, 2) := by decide +kernel
theorem dX3_find_69 : decode cX3_find 69 = .ok (.invokevirtual 53, 3) := by decide +kernel
theorem dX3_find_72 : decode cX3_find 72 = .ok (.istore_n 3, 1) := by decide +kernel
theorem dX3_find_73 : decode cX3_find 73 = .ok (.iload_n 3, 1) := by decide +kernel
theorem dX3_find_74 : decode cX3_find 74 = .ok (.ifCond .ge 6, 3) := by decide +kernel
theorem dX3_find_77 : decode cX3_find 77 = .ok (.bipush (-6), 2) := by decide +kernel
theorem dX3_find_79 : decode cX3_find 79 = .ok (.ireturn, 1) := by decide +kernel
theorem dX3_find_80 : decode cX3_find 80 = .ok (.iinc 4 1, 3) := by decide +kernel
theorem dX3_find_83 : decode cX3_find 83 = .ok (.goto (-69), 3) := by decide +kernel
theorem dX3_find_86 : decode cX3_find 86 = .ok (.iload_n 3, 1) := by decide +kernel
theorem dX3_find_87 : decode cX3_find 87 = .ok (.ireturn, 1) := by decide +kernel
set_option maxRecDepth 20000 in
theorem ggX3_findName_X2_nextEntry : GoodIn wsX3_findName wsX2_nextEntry := goodIn_r _ [7, 8, 9, 10, 11, 12, 6, 13, 14, 15, 16, 17, 18, 19, 20, 21, 22, 23, 24, 25, 26, 27, 39, 40, 41, 42, 43, 44, 45, 46, 47, 48, 49, 50, 51, 52, 53] (by decide +kernel) (by decide +kernel)
set_option maxRecDepth 20000 in
theorem gX3_findName_X2_nextEntry : GoodIn wsX3_findName (wsV RX3 57 RX2 yX2_nextEntry wsX2_nextEntry) := goodIn_app (goodIn_of _ (by decide +kernel)) ggX3_findName_X2_nextEntry
set_option maxRecDepth 20000 in
theorem ggX3_findName_X5_isNameAt : GoodIn wsX3_findName wsX5_isNameAt := goodIn_r _ [32, 33, 34, 23, 24, 25, 26, 27, 54, 55, 53] (by decide +kernel) (by decide +kernel)
set_option maxRecDepth 20000 in
theorem gX3_findName_X5_isNameAt : GoodIn wsX3_findName (wsV RX3 61 RX5 yX5_isNameAt wsX5_isNameAt) := goodIn_app (goodIn_of _ (by decide +kernel)) ggX3_findName_X5_isNameAt
theorem dX3_findName_0 : decode cX3_findName 0 = .ok (.iconst 0, 1) := by decide +kernel
theorem dX3_findName_1 : decode cX3_findName 1 = .ok (.istore_n 3, 1) := by decide +kernel
theorem dX3_findName_2 : decode cX3_findName 2 = .ok (.iload_n 3, 1) := by decide +kernel
theorem dX3_findName_3 : decode cX3_findName 3 = .ok (.sipush 256, 3) := by decide +kernel
theorem dX3_findName_6 : decode cX3_findName 6 = .ok (.if_icmp .ge 40, 3) := by decide +kernel
theorem dX3_findName_9 : decode cX3_findName 9 = .ok (.aload_n 0, 1) := by decide +kernel
theorem dX3_findName_10 : decode cX3_findName 10 = .ok (.getfield 24, 3) := by decide +kernel
theorem dX3_findName_13 : decode cX3_findName 13 = .ok (.invokevirtual 57, 3) := by decide +kernel
theorem dX3_findName_16 : decode cX3_findName 16 = .ok (.istore 4, 2) := by decide +kernel
theorem dX3_findName_18 : decode cX3_findName 18 = .ok (.iload 4, 2) := by decide +kernel
theorem dX3_findName_20 : decode cX3_findName 20 = .ok (.ifCond .lt 17, 3) := by decide +kernel
theorem dX3_findName_23 : decode cX3_findName 23 = .ok (.aload_n 1, 1) := by decide +kernel
theorem dX3_findName_24 : decode cX3_findName 24 = .ok (.iload_n 2, 1) := by decide +kernel
theorem dX3_findName_25 : decode cX3_findName 25 = .ok (.aload_n 0, 1) := by decide +kernel
theorem dX3_findName_26 : decode cX3_findName 26 = .ok (.getfield 9, 3) := by decide +kernel
theorem dX3_findName_29 : decode cX3_findName 29 = .ok (.iload 4, 2) := by decide +kernel
theorem dX3_findName_31 : decode cX3_findName 31 = .ok (.invokevirtual 61, 3) := by decide +kernel
theorem dX3_findName_34 : decode cX3_findName 34 = .ok (.ifCond .eq 6, 3) := by decide +kernel
theorem dX3_findName_37 : decode cX3_findName 37 = .ok (.iload 4, 2) := by decide +kernel
theorem dX3_findName_39 : decode cX3_findName 39 = .ok (.ireturn, 1) := by decide +kernel
theorem dX3_findName_40 : decode cX3_findName 40 = .ok (.iinc 3 1, 3) := by decide +kernel
theorem dX3_findName_43 : decode cX3_findName 43 = .ok (.goto (-41), 3) := by decide +kernel
theorem dX3_findName_46 : decode cX3_findName 46 = .ok (.iconst (-1), 1) := by decide +kernel
theorem dX3_findName_47 : decode cX3_findName 47 = .ok (.ireturn, 1) := by decide +kernel
set_option maxRecDepth 20000 in
theorem ggX3_findFile_X3_find : GoodIn wsX3_findFile wsX3_find := goodIn_r _ [6, 1, 7, 8, 9, 10, 11, 12, 13, 14, 15, 16, 17, 18, 19, 20, 21, 22, 23, 24, 25, 26, 27, 28, 29, 30, 31, 32, 33, 34, 35, 36, 37, 38, 39, 40, 41, 42, 43, 44, 45, 46, 47, 48, 49, 50, 51, 52, 53, 54, 55, 56, 57, 58, 59, 60, 61, 62, 63, 64, 65, 66, 5, 67, 68, 69, 70, 71, 72, 73, 74, 75, 76, 77, 78, 79, 80, 81, 82, 83, 84, 85, 86, 87, 88, 89, 90, 91, 92, 93, 94, 95, 96, 97, 98, 99, 100, 101, 102, 103, 104, 105, 106, 107, 108, 109, 110, 111] (by decide +kernel) (by decide +kernel)
set_option maxRecDepth 20000 in
theorem gX3_findFile_X3_find : GoodIn wsX3_findFile (wsV RX3 65 RX3 yX3_find wsX3_find) := goodIn_app (goodIn_of _ (by decide +kernel)) ggX3_findFile_X3_find
set_option maxRecDepth 20000 in
theorem ggX3_findFile_X8_isDirectory : GoodIn wsX3_findFile wsX8_isDirectory := goodIn_r _ [14, 15, 16, 17, 18, 19, 20, 21, 95, 96, 97, 98, 99, 100, 101, 102, 103, 106] (by decide +kernel) (by decide +kernel)
set_option maxRecDepth 20000 in
theorem gX3_findFile_X8_isDirectory : GoodIn wsX3_findFile (wsV RX3 42 RX8 yX8_isDirectory wsX8_isDirectory) := goodIn_app (goodIn_of _ (by decide +kernel)) ggX3_findFile_X8_isDirectory
theorem dX3_findFile_0 : decode cX3_findFile 0 = .ok (.aload_n 0, 1) := by decide +kernel
theorem dX3_findFile_1 : decode cX3_findFile 1 = .ok (.aload_n 1, 1) := by decide +kernel
theorem dX3_findFile_2 : decode cX3_findFile 2 = .ok (.invokevirtual 65, 3) := by decide +kernel
theorem dX3_findFile_5 : decode cX3_findFile 5 = .ok (.istore_n 2, 1) := by decide +kernel
theorem dX3_findFile_6 : decode cX3_findFile 6 = .ok (.iload_n 2, 1) := by decide +kernel
theorem dX3_findFile_7 : decode cX3_findFile 7 = .ok (.ifCond .lt 19, 3) := by decide +kernel
theorem dX3_findFile_10 : decode cX3_findFile 10 = .ok (.aload_n 0, 1) := by decide +kernel
theorem dX3_findFile_11 : decode cX3_findFile 11 = .ok (.getfield 15, 3) := by decide +kernel
theorem dX3_findFile_14 : decode cX3_findFile 14 = .ok (.iload_n 2, 1) := by decide +kernel
theorem dX3_findFile_15 : decode cX3_findFile 15 = .ok (.invokevirtual 42, 3) := by decide +kernel
theorem dX3_findFile_18 : decode cX3_findFile 18 = .ok (.ifCond .eq 8, 3) := by decide +kernel
theorem dX3_findFile_21 : decode cX3_findFile 21 = .ok (.bipush (-7), 2) := by decide +kernel
theorem dX3_findFile_23 : decode cX3_findFile 23 = .ok (.goto 4, 3) := by decide +kernel
theorem dX3_findFile_26 : decode cX3_findFile 26 = .ok (.iload_n 2, 1) := by decide +kernel
theorem dX3_findFile_27 : decode cX3_findFile 27 = .ok (.ireturn, 1) := by decide +kernel
set_option maxRecDepth 20000 in
theorem ggX3_open_X8_sizeOf : GoodIn wsX3_open wsX8_sizeOf := goodIn_r _ [7, 8, 9, 10, 11, 12, 13, 14, 66, 67, 68, 69, 70, 71, 72, 73, 74, 75] (by decide +kernel) (by decide +kernel)
set_option maxRecDepth 20000 in
theorem gX3_open_X8_sizeOf : GoodIn wsX3_open (wsV RX3 69 RX8 yX8_sizeOf wsX8_sizeOf) := goodIn_app (goodIn_of _ (by decide +kernel)) ggX3_open_X8_sizeOf
set_option maxRecDepth 20000 in
theorem ggX3_open_X8_firstClusterOf : GoodIn wsX3_open wsX8_firstClusterOf := goodIn_r _ [18, 8, 19, 20, 21, 12, 22, 14, 66, 67, 68, 69, 70, 71, 72, 73, 74, 75] (by decide +kernel) (by decide +kernel)
set_option maxRecDepth 20000 in
theorem gX3_open_X8_firstClusterOf : GoodIn wsX3_open (wsV RX3 46 RX8 yX8_firstClusterOf wsX8_firstClusterOf) := goodIn_app (goodIn_of _ (by decide +kernel)) ggX3_open_X8_firstClusterOf
set_option maxRecDepth 20000 in
theorem ggX3_open_X2_trace : GoodIn wsX3_open wsX2_trace := goodIn_r _ [27, 28, 29, 30, 31, 32, 33, 34, 35, 6, 36, 37, 38, 39, 40, 41, 42, 43, 44, 45, 46, 47, 48, 8, 49, 50, 9, 10, 11, 12, 13, 14, 51, 52, 53, 54, 55, 56, 76, 77, 78, 79, 80, 66, 67, 68, 69, 70, 71, 72, 73, 74, 75] (by decide +kernel) (by decide +kernel)
set_option maxRecDepth 20000 in
theorem gX3_open_X2_trace : GoodIn wsX3_open (wsV RX3 50 RX2 yX2_trace wsX2_trace) := goodIn_app (goodIn_of _ (by decide +kernel)) ggX3_open_X2_trace
set_option maxRecDepth 20000 in
theorem ggX3_open_X2_bytes : GoodIn wsX3_open wsX2_bytes := goodIn_r _ [60, 28, 30, 61, 76, 77, 78, 79, 80, 66, 67, 68, 69, 70, 71, 72, 73, 74] (by decide +kernel) (by decide +kernel)
set_option maxRecDepth 20000 in
theorem gX3_open_X2_bytes : GoodIn wsX3_open (wsV RX3 72 RX2 yX2_bytes wsX2_bytes) := goodIn_app (goodIn_of _ (by decide +kernel)) ggX3_open_X2_bytes
theorem dX3_open_0 : decode cX3_open 0 = .ok (.aload_n 0, 1) := by decide +kernel
theorem dX3_open_1 : decode cX3_open 1 = .ok (.getfield 15, 3) := by decide +kernel
theorem dX3_open_4 : decode cX3_open 4 = .ok (.iload_n 1, 1) := by decide +kernel
theorem dX3_open_5 : decode cX3_open 5 = .ok (.invokevirtual 69, 3) := by decide +kernel
theorem dX3_open_8 : decode cX3_open 8 = .ok (.istore_n 2, 1) := by decide +kernel
theorem dX3_open_9 : decode cX3_open 9 = .ok (.iload_n 2, 1) := by decide +kernel
theorem dX3_open_10 : decode cX3_open 10 = .ok (.ifCond .ne 5, 3) := by decide +kernel
theorem dX3_open_13 : decode cX3_open 13 = .ok (.iconst 0, 1) := by decide +kernel
theorem dX3_open_14 : decode cX3_open 14 = .ok (.ireturn, 1) := by decide +kernel
theorem dX3_open_15 : decode cX3_open 15 = .ok (.aload_n 0, 1) := by decide +kernel
theorem dX3_open_16 : decode cX3_open 16 = .ok (.getfield 28, 3) := by decide +kernel
theorem dX3_open_19 : decode cX3_open 19 = .ok (.aload_n 0, 1) := by decide +kernel
theorem dX3_open_20 : decode cX3_open 20 = .ok (.getfield 15, 3) := by decide +kernel
theorem dX3_open_23 : decode cX3_open 23 = .ok (.iload_n 1, 1) := by decide +kernel
theorem dX3_open_24 : decode cX3_open 24 = .ok (.invokevirtual 46, 3) := by decide +kernel
theorem dX3_open_27 : decode cX3_open 27 = .ok (.invokevirtual 50, 3) := by decide +kernel
theorem dX3_open_30 : decode cX3_open 30 = .ok (.ifCond .eq 18, 3) := by decide +kernel
theorem dX3_open_33 : decode cX3_open 33 = .ok (.aload_n 0, 1) := by decide +kernel
theorem dX3_open_34 : decode cX3_open 34 = .ok (.getfield 28, 3) := by decide +kernel
theorem dX3_open_37 : decode cX3_open 37 = .ok (.invokevirtual 72, 3) := by decide +kernel
theorem dX3_open_40 : decode cX3_open 40 = .ok (.iload_n 2, 1) := by decide +kernel
theorem dX3_open_41 : decode cX3_open 41 = .ok (.if_icmp .lt 7, 3) := by decide +kernel
theorem dX3_open_44 : decode cX3_open 44 = .ok (.iconst 1, 1) := by decide +kernel
theorem dX3_open_45 : decode cX3_open 45 = .ok (.goto 4, 3) := by decide +kernel
theorem dX3_open_48 : decode cX3_open 48 = .ok (.iconst 0, 1) := by decide +kernel
theorem dX3_open_49 : decode cX3_open 49 = .ok (.istore_n 3, 1) := by decide +kernel
theorem dX3_open_50 : decode cX3_open 50 = .ok (.iload_n 3, 1) := by decide +kernel
theorem dX3_open_51 : decode cX3_open 51 = .ok (.ifCond .eq 7, 3) := by decide +kernel
theorem dX3_open_54 : decode cX3_open 54 = .ok (.iload_n 2, 1) := by decide +kernel
theorem dX3_open_55 : decode cX3_open 55 = .ok (.goto 5, 3) := by decide +kernel
theorem dX3_open_58 : decode cX3_open 58 = .ok (.bipush (-9), 2) := by decide +kernel
theorem dX3_open_60 : decode cX3_open 60 = .ok (.ireturn, 1) := by decide +kernel
set_option maxRecDepth 20000 in
theorem ggX3_nameNumbered_X2_trace : GoodIn wsX3_nameNumbered wsX2_trace := goodIn_r _ [9, 10, 11, 12, 13, 14, 15, 16, 17, 18, 19, 20, 21, 22, 23, 24, 25, 26, 27, 28, 29, 30, 31, 32, 33, 34, 35, 36, 37, 38, 39, 40, 41, 42, 43, 44, 45, 46, 70, 71, 72, 73, 74, 75, 76, 77, 78, 79, 80, 81, 82, 83, 84] (by decide +kernel) (by decide +kernel)
set_option maxRecDepth 20000 in
theorem gX3_nameNumbered_X2_trace : GoodIn wsX3_nameNumbered (wsV RX3 50 RX2 yX2_trace wsX2_trace) := goodIn_app (goodIn_of _ (by decide +kernel)) ggX3_nameNumbered_X2_trace
set_option maxRecDepth 20000 in
theorem ggX3_nameNumbered_X2_nextEntry : GoodIn wsX3_nameNumbered wsX2_nextEntry := goodIn_r _ [50, 11, 51, 52, 53, 54, 8, 55, 10, 12, 56, 57, 58, 59, 60, 14, 61, 62, 63, 38, 64, 40, 70, 71, 72, 73, 74, 75, 76, 77, 78, 79, 80, 81, 82, 83, 84] (by decide +kernel) (by decide +kernel)
set_option maxRecDepth 20000 in
theorem gX3_nameNumbered_X2_nextEntry : GoodIn wsX3_nameNumbered (wsV RX3 57 RX2 yX2_nextEntry wsX2_nextEntry) := goodIn_app (goodIn_of _ (by decide +kernel)) ggX3_nameNumbered_X2_nextEntry
set_option maxRecDepth 20000 in
theorem ggX3_nameNumbered_X0_wordAt : GoodIn wsX3_nameNumbered wsX0_wordAt := goodIn_r _ [39, 40, 84] (by decide +kernel) (by decide +kernel)
set_option maxRecDepth 20000 in
theorem gX3_nameNumbered_X0_wordAt : GoodIn wsX3_nameNumbered (wsV RX3 79 RX0 yX0_wordAt wsX0_wordAt) := goodIn_app (goodIn_of _ (by decide +kernel)) ggX3_nameNumbered_X0_wordAt
theorem dX3_nameNumbered_0 : decode cX3_nameNumbered 0 = .ok (.aload_n 0, 1) := by decide +kernel
theorem dX3_nameNumbered_1 : decode cX3_nameNumbered 1 = .ok (.getfield 24, 3) := by decide +kernel
theorem dX3_nameNumbered_4 : decode cX3_nameNumbered 4 = .ok (.iload_n 1, 1) := by decide +kernel
theorem dX3_nameNumbered_5 : decode cX3_nameNumbered 5 = .ok (.invokevirtual 50, 3) := by decide +kernel
theorem dX3_nameNumbered_8 : decode cX3_nameNumbered 8 = .ok (.ifCond .ne 7, 3) := by decide +kernel
theorem dX3_nameNumbered_11 : decode cX3_nameNumbered 11 = .ok (.ldc2_w 75, 3) := by decide +kernel
theorem dX3_nameNumbered_14 : decode cX3_nameNumbered 14 = .ok (.lreturn, 1) := by decide +kernel
theorem dX3_nameNumbered_15 : decode cX3_nameNumbered 15 = .ok (.iconst 0, 1) := by decide +kernel
theorem dX3_nameNumbered_16 : decode cX3_nameNumbered 16 = .ok (.istore_n 3, 1) := by decide +kernel
theorem dX3_nameNumbered_17 : decode cX3_nameNumbered 17 = .ok (.iload_n 3, 1) := by decide +kernel
theorem dX3_nameNumbered_18 : decode cX3_nameNumbered 18 = .ok (.sipush 256, 3) := by decide +kernel
theorem dX3_nameNumbered_21 : decode cX3_nameNumbered 21 = .ok (.if_icmp .ge 59, 3) := by decide +kernel
theorem dX3_nameNumbered_24 : decode cX3_nameNumbered 24 = .ok (.aload_n 0, 1) := by decide +kernel
theorem dX3_nameNumbered_25 : decode cX3_nameNumbered 25 = .ok (.getfield 24, 3) := by decide +kernel
theorem dX3_nameNumbered_28 : decode cX3_nameNumbered 28 = .ok (.invokevirtual 57, 3) := by decide +kernel
theorem dX3_nameNumbered_31 : decode cX3_nameNumbered 31 = .ok (.istore 4, 2) := by decide +kernel
theorem dX3_nameNumbered_33 : decode cX3_nameNumbered 33 = .ok (.iload 4, 2) := by decide +kernel
theorem dX3_nameNumbered_35 : decode cX3_nameNumbered 35 = .ok (.ifCond .ge 7, 3) := by decide +kernel
theorem dX3_nameNumbered_38 : decode cX3_nameNumbered 38 = .ok (.ldc2_w 77, 3) := by decide +kernel
theorem dX3_nameNumbered_41 : decode cX3_nameNumbered 41 = .ok (.lreturn, 1) := by decide +kernel
theorem dX3_nameNumbered_42 : decode cX3_nameNumbered 42 = .ok (.iload_n 3, 1) := by decide +kernel
theorem dX3_nameNumbered_43 : decode cX3_nameNumbered 43 = .ok (.iload_n 2, 1) := by decide +kernel
theorem dX3_nameNumbered_44 : decode cX3_nameNumbered 44 = .ok (.if_icmp .ne 30, 3) := by decide +kernel
theorem dX3_nameNumbered_47 : decode cX3_nameNumbered 47 = .ok (.aload_n 0, 1) := by decide +kernel
theorem dX3_nameNumbered_48 : decode cX3_nameNumbered 48 = .ok (.getfield 9, 3) := by decide +kernel
theorem dX3_nameNumbered_51 : decode cX3_nameNumbered 51 = .ok (.iload 4, 2) := by decide +kernel
theorem dX3_nameNumbered_53 : decode cX3_nameNumbered 53 = .ok (.invokevirtual 79, 3) := by decide +kernel
theorem dX3_nameNumbered_56 : decode cX3_nameNumbered 56 = .ok (.i2l, 1) := by decide +kernel
theorem dX3_nameNumbered_57 : decode cX3_nameNumbered 57 = .ok (.aload_n 0, 1) := by decide +kernel
theorem dX3_nameNumbered_58 : decode cX3_nameNumbered 58 = .ok (.getfield 9, 3) := by decide +kernel
theorem dX3_nameNumbered_61 : decode cX3_nameNumbered 61 = .ok (.iload 4, 2) := by decide +kernel
theorem dX3_nameNumbered_63 : decode cX3_nameNumbered 63 = .ok (.iconst 2, 1) := by decide +kernel
theorem dX3_nameNumbered_64 : decode cX3_nameNumbered 64 = .ok (.iadd, 1) := by decide +kernel
theorem dX3_nameNumbered_65 : decode cX3_nameNumbered 65 = .ok (.invokevirtual 79, 3) := by decide +kernel
theorem dX3_nameNumbered_68 : decode cX3_nameNumbered 68 = .ok (.i2l, 1) := by decide +kernel
theorem dX3_nameNumbered_69 : decode cX3_nameNumbered 69 = .ok (.bipush 16, 2) := by decide +kernel
theorem dX3_nameNumbered_71 : decode cX3_nameNumbered 71 = .ok (.lshl, 1) := by decide +kernel
theorem dX3_nameNumbered_72 : decode cX3_nameNumbered 72 = .ok (.lor, 1) := by decide +kernel
theorem dX3_nameNumbered_73 : decode cX3_nameNumbered 73 = .ok (.lreturn, 1) := by decide +kernel
theorem dX3_nameNumbered_74 : decode cX3_nameNumbered 74 = .ok (.iinc 3 1, 3) := by decide +kernel
theorem dX3_nameNumbered_77 : decode cX3_nameNumbered 77 = .ok (.goto (-60), 3) := by decide +kernel
theorem dX3_nameNumbered_80 : decode cX3_nameNumbered 80 = .ok (.ldc2_w 77, 3) := by decide +kernel
theorem dX3_nameNumbered_83 : decode cX3_nameNumbered 83 = .ok (.lreturn, 1) := by decide +kernel
theorem dX4_init_0 : decode cX4_init 0 = .ok (.aload_n 0, 1) := by decide +kernel
theorem dX4_init_1 : decode cX4_init 1 = .ok (.invokespecial 3, 3) := by decide +kernel
theorem dX4_init_4 : decode cX4_init 4 = .ok (.return_, 1) := by decide +kernel
set_option maxRecDepth 20000 in
theorem ggX4_takeHeader_X4_findHeader : GoodIn wsX4_takeHeader wsX4_findHeader := goodIn_r _ [9, 4, 10, 11, 12, 13, 14, 15, 16, 17, 18, 19, 20, 21, 22, 23, 24, 25, 26, 27, 28, 29, 30, 31, 32, 33, 37, 38, 39, 40, 41, 42, 43, 44, 45, 46, 47, 48, 49, 50, 51] (by decide +kernel) (by decide +kernel)
set_option maxRecDepth 20000 in
theorem gX4_takeHeader_X4_findHeader : GoodIn wsX4_takeHeader (wsV RX4 9 RX4 yX4_findHeader wsX4_findHeader) := goodIn_app (goodIn_of _ (by decide +kernel)) ggX4_takeHeader_X4_findHeader
set_option maxRecDepth 20000 in
theorem ggX4_takeHeader_X2_intAt : GoodIn wsX4_takeHeader wsX2_intAt := goodIn_r _ [14, 15, 16, 17, 13, 18, 19, 20, 21, 22, 23, 24, 25, 26, 27, 28, 29, 30, 31, 32, 33, 37, 38, 39, 40, 41, 42, 43, 44, 45, 46, 47, 48, 49, 50, 51] (by decide +kernel) (by decide +kernel)
set_option maxRecDepth 20000 in
theorem gX4_takeHeader_X2_intAt : GoodIn wsX4_takeHeader (wsV RX4 15 RX2 yX2_intAt wsX2_intAt) := goodIn_app (goodIn_of _ (by decide +kernel)) ggX4_takeHeader_X2_intAt
theorem dX4_takeHeader_0 : decode cX4_takeHeader 0 = .ok (.aload_n 0, 1) := by decide +kernel
theorem dX4_takeHeader_1 : decode cX4_takeHeader 1 = .ok (.aload_n 1, 1) := by decide +kernel
theorem dX4_takeHeader_2 : decode cX4_takeHeader 2 = .ok (.iload_n 2, 1) := by decide +kernel
theorem dX4_takeHeader_3 : decode cX4_takeHeader 3 = .ok (.invokevirtual 9, 3) := by decide +kernel
theorem dX4_takeHeader_6 : decode cX4_takeHeader 6 = .ok (.istore_n 3, 1) := by decide +kernel
theorem dX4_takeHeader_7 : decode cX4_takeHeader 7 = .ok (.iload_n 3, 1) := by decide +kernel
theorem dX4_takeHeader_8 : decode cX4_takeHeader 8 = .ok (.ifCond .ge 5, 3) := by decide +kernel
theorem dX4_takeHeader_11 : decode cX4_takeHeader 11 = .ok (.iconst 0, 1) := by decide +kernel
theorem dX4_takeHeader_12 : decode cX4_takeHeader 12 = .ok (.ireturn, 1) := by decide +kernel
theorem dX4_takeHeader_13 : decode cX4_takeHeader 13 = .ok (.aload_n 0, 1) := by decide +kernel
theorem dX4_takeHeader_14 : decode cX4_takeHeader 14 = .ok (.aload_n 1, 1) := by decide +kernel
theorem dX4_takeHeader_15 : decode cX4_takeHeader 15 = .ok (.iload_n 3, 1) := by decide +kernel
theorem dX4_takeHeader_16 : decode cX4_takeHeader 16 = .ok (.iconst 4, 1) := by decide +kernel
theorem dX4_takeHeader_17 : decode cX4_takeHeader 17 = .ok (.iadd, 1) := by decide +kernel
theorem dX4_takeHeader_18 : decode cX4_takeHeader 18 = .ok (.invokevirtual 15, 3) := by decide +kernel
theorem dX4_takeHeader_21 : decode cX4_takeHeader 21 = .ok (.putfield 21, 3) := by decide +kernel
theorem dX4_takeHeader_24 : decode cX4_takeHeader 24 = .ok (.aload_n 0, 1) := by decide +kernel
theorem dX4_takeHeader_25 : decode cX4_takeHeader 25 = .ok (.aload_n 1, 1) := by decide +kernel
theorem dX4_takeHeader_26 : decode cX4_takeHeader 26 = .ok (.iload_n 3, 1) := by decide +kernel
theorem dX4_takeHeader_27 : decode cX4_takeHeader 27 = .ok (.bipush 12, 2) := by decide +kernel
theorem dX4_takeHeader_29 : decode cX4_takeHeader 29 = .ok (.iadd, 1) := by decide +kernel
theorem dX4_takeHeader_30 : decode cX4_takeHeader 30 = .ok (.invokevirtual 15, 3) := by decide +kernel
theorem dX4_takeHeader_33 : decode cX4_takeHeader 33 = .ok (.putfield 25, 3) := by decide +kernel
theorem dX4_takeHeader_36 : decode cX4_takeHeader 36 = .ok (.aload_n 0, 1) := by decide +kernel
theorem dX4_takeHeader_37 : decode cX4_takeHeader 37 = .ok (.aload_n 1, 1) := by decide +kernel
theorem dX4_takeHeader_38 : decode cX4_takeHeader 38 = .ok (.iload_n 3, 1) := by decide +kernel
theorem dX4_takeHeader_39 : decode cX4_takeHeader 39 = .ok (.bipush 16, 2) := by decide +kernel
theorem dX4_takeHeader_41 : decode cX4_takeHeader 41 = .ok (.iadd, 1) := by decide +kernel
theorem dX4_takeHeader_42 : decode cX4_takeHeader 42 = .ok (.invokevirtual 15, 3) := by decide +kernel
theorem dX4_takeHeader_45 : decode cX4_takeHeader 45 = .ok (.putfield 28, 3) := by decide +kernel
theorem dX4_takeHeader_48 : decode cX4_takeHeader 48 = .ok (.ldc 31, 2) := by decide +kernel
theorem dX4_takeHeader_50 : decode cX4_takeHeader 50 = .ok (.aload_n 0, 1) := by decide +kernel
theorem dX4_takeHeader_51 : decode cX4_takeHeader 51 = .ok (.getfield 21, 3) := by decide +kernel
theorem dX4_takeHeader_54 : decode cX4_takeHeader 54 = .ok (.iadd, 1) := by decide +kernel
theorem dX4_takeHeader_55 : decode cX4_takeHeader 55 = .ok (.aload_n 1, 1) := by decide +kernel
theorem dX4_takeHeader_56 : decode cX4_takeHeader 56 = .ok (.iload_n 3, 1) := by decide +kernel
theorem dX4_takeHeader_57 : decode cX4_takeHeader 57 = .ok (.bipush 8, 2) := by decide +kernel
theorem dX4_takeHeader_59 : decode cX4_takeHeader 59 = .ok (.iadd, 1) := by decide +kernel
theorem dX4_takeHeader_60 : decode cX4_takeHeader 60 = .ok (.invokevirtual 15, 3) := by decide +kernel
theorem dX4_takeHeader_63 : decode cX4_takeHeader 63 = .ok (.iadd, 1) := by decide +kernel
theorem dX4_takeHeader_64 : decode cX4_takeHeader 64 = .ok (.ifCond .eq 5, 3) := by decide +kernel
theorem dX4_takeHeader_67 : decode cX4_takeHeader 67 = .ok (.iconst 0, 1) := by decide +kernel
theorem dX4_takeHeader_68 : decode cX4_takeHeader 68 = .ok (.ireturn, 1) := by decide +kernel
theorem dX4_takeHeader_69 : decode cX4_takeHeader 69 = .ok (.aload_n 0, 1) := by decide +kernel
theorem dX4_takeHeader_70 : decode cX4_takeHeader 70 = .ok (.getfield 21, 3) := by decide +kernel
theorem dX4_takeHeader_73 : decode cX4_takeHeader 73 = .ok (.bipush (-4), 2) := by decide +kernel
theorem dX4_takeHeader_75 : decode cX4_takeHeader 75 = .ok (.iand, 1) := by decide +kernel
theorem dX4_takeHeader_76 : decode cX4_takeHeader 76 = .ok (.ifCond .eq 5, 3) := by decide +kernel
theorem dX4_takeHeader_79 : decode cX4_takeHeader 79 = .ok (.iconst 0, 1) := by decide +kernel
theorem dX4_takeHeader_80 : decode cX4_takeHeader 80 = .ok (.ireturn, 1) := by decide +kernel
theorem dX4_takeHeader_81 : decode cX4_takeHeader 81 = .ok (.aload_n 0, 1) := by decide +kernel
theorem dX4_takeHeader_82 : decode cX4_takeHeader 82 = .ok (.getfield 21, 3) := by decide +kernel
theorem dX4_takeHeader_85 : decode cX4_takeHeader 85 = .ok (.iconst 1, 1) := by decide +kernel
theorem dX4_takeHeader_86 : decode cX4_takeHeader 86 = .ok (.iand, 1) := by decide +kernel
theorem dX4_takeHeader_87 : decode cX4_takeHeader 87 = .ok (.ifCond .eq 13, 3) := by decide +kernel
theorem dX4_takeHeader_90 : decode cX4_takeHeader 90 = .ok (.aload_n 0, 1) := by decide +kernel
theorem dX4_takeHeader_91 : decode cX4_takeHeader 91 = .ok (.getfield 25, 3) := by decide +kernel
theorem dX4_takeHeader_94 : decode cX4_takeHeader 94 = .ok (.bipush 16, 2) := by decide +kernel
theorem dX4_takeHeader_96 : decode cX4_takeHeader 96 = .ok (.irem, 1) := by decide +kernel
theorem dX4_takeHeader_97 : decode cX4_takeHeader 97 = .ok (.ifCond .ne 7, 3) := by decide +kernel
theorem dX4_takeHeader_100 : decode cX4_takeHeader 100 = .ok (.iconst 1, 1) := by decide +kernel
theorem dX4_takeHeader_101 : decode cX4_takeHeader 101 = .ok (.goto 4, 3) := by decide +kernel
theorem dX4_takeHeader_104 : decode cX4_takeHeader 104 = .ok (.iconst 0, 1) := by decide +kernel
theorem dX4_takeHeader_105 : decode cX4_takeHeader 105 = .ok (.ireturn, 1) := by decide +kernel
set_option maxRecDepth 20000 in
theorem ggX4_findHeader_X2_intAt : GoodIn wsX4_findHeader wsX2_intAt := goodIn_r _ [6, 7, 8, 9, 5, 10, 11, 12, 13, 14, 15, 16, 17, 18, 19, 20, 21, 22, 23, 24, 25, 26, 27, 28, 29, 30, 31, 32, 33, 34, 35, 36, 37, 38, 39, 40] (by decide +kernel) (by decide +kernel)
set_option maxRecDepth 20000 in
theorem gX4_findHeader_X2_intAt : GoodIn wsX4_findHeader (wsV RX4 15 RX2 yX2_intAt wsX2_intAt) := goodIn_app (goodIn_of _ (by decide +kernel)) ggX4_findHeader_X2_intAt
theorem dX4_findHeader_0 : decode cX4_findHeader 0 = .ok (.iconst 0, 1) := by decide +kernel
theorem dX4_findHeader_1 : decode cX4_findHeader 1 = .ok (.istore_n 3, 1) := by decide +kernel
theorem dX4_findHeader_2 : decode cX4_findHeader 2 = .ok (.iload_n 3, 1) := by decide +kernel
theorem dX4_findHeader_3 : decode cX4_findHeader 3 = .ok (.bipush 28, 2) := by decide +kernel
theorem dX4_findHeader_5 : decode cX4_findHeader 5 = .ok (.if_icmp .gt 29, 3) := by decide +kernel
theorem dX4_findHeader_8 : decode cX4_findHeader 8 = .ok (.iload_n 3, 1) := by decide +kernel
theorem dX4_findHeader_9 : decode cX4_findHeader 9 = .ok (.bipush 20, 2) := by decide +kernel
theorem dX4_findHeader_11 : decode cX4_findHeader 11 = .ok (.iadd, 1) := by decide +kernel
theorem dX4_findHeader_12 : decode cX4_findHeader 12 = .ok (.iload_n 2, 1) := by decide +kernel
theorem dX4_findHeader_13 : decode cX4_findHeader 13 = .ok (.if_icmp .gt 21, 3) := by decide +kernel
theorem dX4_findHeader_16 : decode cX4_findHeader 16 = .ok (.aload_n 1, 1) := by decide +kernel
theorem dX4_findHeader_17 : decode cX4_findHeader 17 = .ok (.iload_n 3, 1) := by decide +kernel
theorem dX4_findHeader_18 : decode cX4_findHeader 18 = .ok (.invokevirtual 15, 3) := by decide +kernel
theorem dX4_findHeader_21 : decode cX4_findHeader 21 = .ok (.ldc 31, 2) := by decide +kernel
theorem dX4_findHeader_23 : decode cX4_findHeader 23 = .ok (.if_icmp .ne 5, 3) := by decide +kernel
theorem dX4_findHeader_26 : decode cX4_findHeader 26 = .ok (.iload_n 3, 1) := by decide +kernel
theorem dX4_findHeader_27 : decode cX4_findHeader 27 = .ok (.ireturn, 1) := by decide +kernel
theorem dX4_findHeader_28 : decode cX4_findHeader 28 = .ok (.iinc 3 4, 3) := by decide +kernel
theorem dX4_findHeader_31 : decode cX4_findHeader 31 = .ok (.goto (-29), 3) := by decide +kernel
theorem dX4_findHeader_34 : decode cX4_findHeader 34 = .ok (.iconst (-1), 1) := by decide +kernel
theorem dX4_findHeader_35 : decode cX4_findHeader 35 = .ok (.ireturn, 1) := by decide +kernel
theorem dX4_fits_0 : decode cX4_fits 0 = .ok (.aload_n 0, 1) := by decide +kernel
theorem dX4_fits_1 : decode cX4_fits 1 = .ok (.getfield 25, 3) := by decide +kernel
theorem dX4_fits_4 : decode cX4_fits 4 = .ok (.bipush 64, 2) := by decide +kernel
theorem dX4_fits_6 : decode cX4_fits 6 = .ok (.if_icmp .lt 43, 3) := by decide +kernel
theorem dX4_fits_9 : decode cX4_fits 9 = .ok (.aload_n 0, 1) := by decide +kernel
theorem dX4_fits_10 : decode cX4_fits 10 = .ok (.getfield 25, 3) := by decide +kernel
theorem dX4_fits_13 : decode cX4_fits 13 = .ok (.sipush 1024, 3) := by decide +kernel
theorem dX4_fits_16 : decode cX4_fits 16 = .ok (.iload_n 1, 1) := by decide +kernel
theorem dX4_fits_17 : decode cX4_fits 17 = .ok (.isub, 1) := by decide +kernel
theorem dX4_fits_18 : decode cX4_fits 18 = .ok (.if_icmp .gt 31, 3) := by decide +kernel
theorem dX4_fits_21 : decode cX4_fits 21 = .ok (.aload_n 0, 1) := by decide +kernel
theorem dX4_fits_22 : decode cX4_fits 22 = .ok (.getfield 28, 3) := by decide +kernel
theorem dX4_fits_25 : decode cX4_fits 25 = .ok (.aload_n 0, 1) := by decide +kernel
theorem dX4_fits_26 : decode cX4_fits 26 = .ok (.getfield 25, 3) := by decide +kernel
theorem dX4_fits_29 : decode cX4_fits 29 = .ok (.if_icmp .lt 20, 3) := by decide +kernel
theorem dX4_fits_32 : decode cX4_fits 32 = .ok (.aload_n 0, 1) := by decide +kernel
theorem dX4_fits_33 : decode cX4_fits 33 = .ok (.getfield 28, 3) := by decide +kernel
theorem dX4_fits_36 : decode cX4_fits 36 = .ok (.aload_n 0, 1) := by decide +kernel
theorem dX4_fits_37 : decode cX4_fits 37 = .ok (.getfield 25, 3) := by decide +kernel
theorem dX4_fits_40 : decode cX4_fits 40 = .ok (.iload_n 1, 1) := by decide +kernel
theorem dX4_fits_41 : decode cX4_fits 41 = .ok (.iadd, 1) := by decide +kernel
theorem dX4_fits_42 : decode cX4_fits 42 = .ok (.if_icmp .ge 7, 3) := by decide +kernel
theorem dX4_fits_45 : decode cX4_fits 45 = .ok (.iconst 1, 1) := by decide +kernel
theorem dX4_fits_46 : decode cX4_fits 46 = .ok (.goto 4, 3) := by decide +kernel
theorem dX4_fits_49 : decode cX4_fits 49 = .ok (.iconst 0, 1) := by decide +kernel
theorem dX4_fits_50 : decode cX4_fits 50 = .ok (.ireturn, 1) := by decide +kernel
theorem dX4_wantsMemoryBytes_0 : decode cX4_wantsMemoryBytes 0 = .ok (.aload_n 0, 1) := by decide +kernel
theorem dX4_wantsMemoryBytes_1 : decode cX4_wantsMemoryBytes 1 = .ok (.getfield 21, 3) := by decide +kernel
theorem dX4_wantsMemoryBytes_4 : decode cX4_wantsMemoryBytes 4 = .ok (.iconst 2, 1) := by decide +kernel
theorem dX4_wantsMemoryBytes_5 : decode cX4_wantsMemoryBytes 5 = .ok (.iand, 1) := by decide +kernel
theorem dX4_wantsMemoryBytes_6 : decode cX4_wantsMemoryBytes 6 = .ok (.ifCond .eq 7, 3) := by decide +kernel
theorem dX4_wantsMemoryBytes_9 : decode cX4_wantsMemoryBytes 9 = .ok (.iconst 1, 1) := by decide +kernel
theorem dX4_wantsMemoryBytes_10 : decode cX4_wantsMemoryBytes 10 = .ok (.goto 4, 3) := by decide +kernel
theorem dX4_wantsMemoryBytes_13 : decode cX4_wantsMemoryBytes 13 = .ok (.iconst 0, 1) := by decide +kernel
theorem dX4_wantsMemoryBytes_14 : decode cX4_wantsMemoryBytes 14 = .ok (.ireturn, 1) := by decide +kernel
theorem dX5_init_0 : decode cX5_init 0 = .ok (.aload_n 0, 1) := by decide +kernel
theorem dX5_init_1 : decode cX5_init 1 = .ok (.invokespecial 1, 3) := by decide +kernel
theorem dX5_init_4 : decode cX5_init 4 = .ok (.aload_n 0, 1) := by decide +kernel
theorem dX5_init_5 : decode cX5_init 5 = .ok (.bipush 16, 2) := by decide +kernel
theorem dX5_init_7 : decode cX5_init 7 = .ok (.newarray .int, 2) := by decide +kernel
theorem dX5_init_9 : decode cX5_init 9 = .ok (.putfield 9, 3) := by decide +kernel
theorem dX5_init_12 : decode cX5_init 12 = .ok (.return_, 1) := by decide +kernel
set_option maxRecDepth 20000 in
theorem ggX5_parse_J7_fill_53178 : GoodIn wsX5_parse wsJ7_fill_53178 := goodIn_r _ [6] (by decide +kernel) (by decide +kernel)
set_option maxRecDepth 20000 in
theorem gX5_parse_J7_fill_53178 : GoodIn wsX5_parse (va_wsS RX5 13 yJ7_fill_53178 wsJ7_fill_53178) := goodIn_app (goodIn_of _ (by decide +kernel)) ggX5_parse_J7_fill_53178
set_option maxRecDepth 20000 in
theorem ggX5_parse_X5_isLetter : GoodIn wsX5_parse wsX5_isLetter := goodIn_r _ [11] (by decide +kernel) (by decide +kernel)
set_option maxRecDepth 20000 in
theorem gX5_parse_X5_isLetter : GoodIn wsX5_parse (wsV RX5 19 RX5 yX5_isLetter wsX5_isLetter) := goodIn_app (goodIn_of _ (by decide +kernel)) ggX5_parse_X5_isLetter
theorem dX5_parse_0 : decode cX5_parse 0 = .ok (.aload_n 0, 1) := by decide +kernel
theorem dX5_parse_1 : decode cX5_parse 1 = .ok (.getfield 9, 3) := by decide +kernel
theorem dX5_parse_4 : decode cX5_parse 4 = .ok (.bipush 32, 2) := by decide +kernel
theorem dX5_parse_6 : decode cX5_parse 6 = .ok (.invokestatic 13, 3) := by decide +kernel
theorem dX5_parse_9 : decode cX5_parse 9 = .ok (.iconst 0, 1) := by decide +kernel
theorem dX5_parse_10 : decode cX5_parse 10 = .ok (.istore 4, 2) := by decide +kernel
theorem dX5_parse_12 : decode cX5_parse 12 = .ok (.iconst 0, 1) := by decide +kernel
theorem dX5_parse_13 : decode cX5_parse 13 = .ok (.istore 5, 2) := by decide +kernel
theorem dX5_parse_15 : decode cX5_parse 15 = .ok (.iload_n 2, 1) := by decide +kernel
theorem dX5_parse_16 : decode cX5_parse 16 = .ok (.istore 6, 2) := by decide +kernel
theorem dX5_parse_18 : decode cX5_parse 18 = .ok (.iload 6, 2) := by decide +kernel
theorem dX5_parse_20 : decode cX5_parse 20 = .ok (.iload_n 3, 1) := by decide +kernel
theorem dX5_parse_21 : decode cX5_parse 21 = .ok (.if_icmp .ge 78, 3) := by decide +kernel
theorem dX5_parse_24 : decode cX5_parse 24 = .ok (.aload_n 1, 1) := by decide +kernel
theorem dX5_parse_25 : decode cX5_parse 25 = .ok (.iload 6, 2) := by decide +kernel
theorem dX5_parse_27 : decode cX5_parse 27 = .ok (.iaload, 1) := by decide +kernel
theorem dX5_parse_28 : decode cX5_parse 28 = .ok (.bipush 47, 2) := by decide +kernel
theorem dX5_parse_30 : decode cX5_parse 30 = .ok (.if_icmp .ne 25, 3) := by decide +kernel
theorem dX5_parse_33 : decode cX5_parse 33 = .ok (.iinc 4 1, 3) := by decide +kernel
theorem dX5_parse_36 : decode cX5_parse 36 = .ok (.iload 5, 2) := by decide +kernel
theorem dX5_parse_38 : decode cX5_parse 38 = .ok (.ifCond .eq 9, 3) := by decide +kernel
theorem dX5_parse_41 : decode cX5_parse 41 = .ok (.iload 4, 2) := by decide +kernel
theorem dX5_parse_43 : decode cX5_parse 43 = .ok (.iconst 4, 1) := by decide +kernel
theorem dX5_parse_44 : decode cX5_parse 44 = .ok (.if_icmp .ne 5, 3) := by decide +kernel
theorem dX5_parse_47 : decode cX5_parse 47 = .ok (.iconst 0, 1) := by decide +kernel
theorem dX5_parse_48 : decode cX5_parse 48 = .ok (.ireturn, 1) := by decide +kernel
theorem dX5_parse_49 : decode cX5_parse 49 = .ok (.iconst 0, 1) := by decide +kernel
theorem dX5_parse_50 : decode cX5_parse 50 = .ok (.istore 5, 2) := by decide +kernel
theorem dX5_parse_52 : decode cX5_parse 52 = .ok (.goto 41, 3) := by decide +kernel
theorem dX5_parse_55 : decode cX5_parse 55 = .ok (.iload 5, 2) := by decide +kernel
theorem dX5_parse_57 : decode cX5_parse 57 = .ok (.iconst 4, 1) := by decide +kernel
theorem dX5_parse_58 : decode cX5_parse 58 = .ok (.if_icmp .eq 14, 3) := by decide +kernel
theorem dX5_parse_61 : decode cX5_parse 61 = .ok (.aload_n 0, 1) := by decide +kernel
theorem dX5_parse_62 : decode cX5_parse 62 = .ok (.aload_n 1, 1) := by decide +kernel
theorem dX5_parse_63 : decode cX5_parse 63 = .ok (.iload 6, 2) := by decide +kernel
theorem dX5_parse_65 : decode cX5_parse 65 = .ok (.iaload, 1) := by decide +kernel
theorem dX5_parse_66 : decode cX5_parse 66 = .ok (.invokevirtual 19, 3) := by decide +kernel
theorem dX5_parse_69 : decode cX5_parse 69 = .ok (.ifCond .ne 5, 3) := by decide +kernel
theorem dX5_parse_72 : decode cX5_parse 72 = .ok (.iconst 0, 1) := by decide +kernel
theorem dX5_parse_73 : decode cX5_parse 73 = .ok (.ireturn, 1) := by decide +kernel
theorem dX5_parse_74 : decode cX5_parse 74 = .ok (.aload_n 0, 1) := by decide +kernel
theorem dX5_parse_75 : decode cX5_parse 75 = .ok (.getfield 9, 3) := by decide +kernel
theorem dX5_parse_78 : decode cX5_parse 78 = .ok (.iload 4, 2) := by decide +kernel
theorem dX5_parse_80 : decode cX5_parse 80 = .ok (.iconst 4, 1) := by decide +kernel
theorem dX5_parse_81 : decode cX5_parse 81 = .ok (.imul, 1) := by decide +kernel
theorem dX5_parse_82 : decode cX5_parse 82 = .ok (.iload 5, 2) := by decide +kernel
theorem dX5_parse_84 : decode cX5_parse 84 = .ok (.iadd, 1) := by decide +kernel
theorem dX5_parse_85 : decode cX5_parse 85 = .ok (.aload_n 1, 1) := by decide +kernel
theorem dX5_parse_86 : decode cX5_parse 86 = .ok (.iload 6, 2) := by decide +kernel
theorem dX5_parse_88 : decode cX5_parse 88 = .ok (.iaload, 1) := by decide +kernel
theorem dX5_parse_89 : decode cX5_parse 89 = .ok (.iastore, 1) := by decide +kernel
theorem dX5_parse_90 : decode cX5_parse 90 = .ok (.iinc 5 1, 3) := by decide +kernel
theorem dX5_parse_93 : decode cX5_parse 93 = .ok (.iinc 6 1, 3) := by decide +kernel
theorem dX5_parse_96 : decode cX5_parse 96 = .ok (.goto (-78), 3) := by decide +kernel
theorem dX5_parse_99 : decode cX5_parse 99 = .ok (.aload_n 0, 1) := by decide +kernel
theorem dX5_parse_100 : decode cX5_parse 100 = .ok (.iload 4, 2) := by decide +kernel
theorem dX5_parse_102 : decode cX5_parse 102 = .ok (.iconst 1, 1) := by decide +kernel
theorem dX5_parse_103 : decode cX5_parse 103 = .ok (.iadd, 1) := by decide +kernel
theorem dX5_parse_104 : decode cX5_parse 104 = .ok (.putfield 23, 3) := by decide +kernel
theorem dX5_parse_107 : decode cX5_parse 107 = .ok (.iload 5, 2) := by decide +kernel
theorem dX5_parse_109 : decode cX5_parse 109 = .ok (.ifCond .le 7, 3) := by decide +kernel
theorem dX5_parse_112 : decode cX5_parse 112 = .ok (.iconst 1, 1) := by decide +kernel
theorem dX5_parse_113 : decode cX5_parse 113 = .ok (.goto 4, 3) := by decide +kernel
theorem dX5_parse_116 : decode cX5_parse 116 = .ok (.iconst 0, 1) := by decide +kernel
theorem dX5_parse_117 : decode cX5_parse 117 = .ok (.ireturn, 1) := by decide +kernel
theorem dX5_isLetter_0 : decode cX5_isLetter 0 = .ok (.iload_n 1, 1) := by decide +kernel
theorem dX5_isLetter_1 : decode cX5_isLetter 1 = .ok (.bipush 65, 2) := by decide +kernel
theorem dX5_isLetter_3 : decode cX5_isLetter 3 = .ok (.if_icmp .lt 9, 3) := by decide +kernel
theorem dX5_isLetter_6 : decode cX5_isLetter 6 = .ok (.iload_n 1, 1) := by decide +kernel
theorem dX5_isLetter_7 : decode cX5_isLetter 7 = .ok (.bipush 90, 2) := by decide +kernel
theorem dX5_isLetter_9 : decode cX5_isLetter 9 = .ok (.if_icmp .le 15, 3) := by decide +kernel
theorem dX5_isLetter_12 : decode cX5_isLetter 12 = .ok (.iload_n 1, 1) := by decide +kernel
theorem dX5_isLetter_13 : decode cX5_isLetter 13 = .ok (.bipush 48, 2) := by decide +kernel
theorem dX5_isLetter_15 : decode cX5_isLetter 15 = .ok (.if_icmp .lt 13, 3) := by decide +kernel
theorem dX5_isLetter_18 : decode cX5_isLetter 18 = .ok (.iload_n 1, 1) := by decide +kernel
theorem dX5_isLetter_19 : decode cX5_isLetter 19 = .ok (.bipush 57, 2) := by decide +kernel
theorem dX5_isLetter_21 : decode cX5_isLetter 21 = .ok (.if_icmp .gt 7, 3) := by decide +kernel
theorem dX5_isLetter_24 : decode cX5_isLetter 24 = .ok (.iconst 1, 1) := by decide +kernel
theorem dX5_isLetter_25 : decode cX5_isLetter 25 = .ok (.goto 4, 3) := by decide +kernel
theorem dX5_isLetter_28 : decode cX5_isLetter 28 = .ok (.iconst 0, 1) := by decide +kernel
theorem dX5_isLetter_29 : decode cX5_isLetter 29 = .ok (.ireturn, 1) := by decide +kernel
set_option maxRecDepth 20000 in
theorem ggX5_isNameAt_X0_byteAt : GoodIn wsX5_isNameAt wsX0_byteAt := goodIn_r _ [6, 7, 10] (by decide +kernel) (by decide +kernel)
set_option maxRecDepth 20000 in
theorem gX5_isNameAt_X0_byteAt : GoodIn wsX5_isNameAt (wsV RX5 27 RX0 yX0_byteAt wsX0_byteAt) := goodIn_app (goodIn_of _ (by decide +kernel)) ggX5_isNameAt_X0_byteAt
theorem dX5_isNameAt_0 : decode cX5_isNameAt 0 = .ok (.iconst 0, 1) := by decide +kernel
theorem dX5_isNameAt_1 : decode cX5_isNameAt 1 = .ok (.istore 4, 2) := by decide +kernel
theorem dX5_isNameAt_3 : decode cX5_isNameAt 3 = .ok (.iload 4, 2) := by decide +kernel
theorem dX5_isNameAt_5 : decode cX5_isNameAt 5 = .ok (.iconst 4, 1) := by decide +kernel
theorem dX5_isNameAt_6 : decode cX5_isNameAt 6 = .ok (.if_icmp .ge 33, 3) := by decide +kernel
theorem dX5_isNameAt_9 : decode cX5_isNameAt 9 = .ok (.aload_n 2, 1) := by decide +kernel
theorem dX5_isNameAt_10 : decode cX5_isNameAt 10 = .ok (.iload_n 3, 1) := by decide +kernel
theorem dX5_isNameAt_11 : decode cX5_isNameAt 11 = .ok (.iload 4, 2) := by decide +kernel
theorem dX5_isNameAt_13 : decode cX5_isNameAt 13 = .ok (.iadd, 1) := by decide +kernel
theorem dX5_isNameAt_14 : decode cX5_isNameAt 14 = .ok (.invokevirtual 27, 3) := by decide +kernel
theorem dX5_isNameAt_17 : decode cX5_isNameAt 17 = .ok (.aload_n 0, 1) := by decide +kernel
theorem dX5_isNameAt_18 : decode cX5_isNameAt 18 = .ok (.getfield 9, 3) := by decide +kernel
theorem dX5_isNameAt_21 : decode cX5_isNameAt 21 = .ok (.iload_n 1, 1) := by decide +kernel
theorem dX5_isNameAt_22 : decode cX5_isNameAt 22 = .ok (.iconst 4, 1) := by decide +kernel
theorem dX5_isNameAt_23 : decode cX5_isNameAt 23 = .ok (.imul, 1) := by decide +kernel
theorem dX5_isNameAt_24 : decode cX5_isNameAt 24 = .ok (.iload 4, 2) := by decide +kernel
theorem dX5_isNameAt_26 : decode cX5_isNameAt 26 = .ok (.iadd, 1) := by decide +kernel
theorem dX5_isNameAt_27 : decode cX5_isNameAt 27 = .ok (.iaload, 1) := by decide +kernel
theorem dX5_isNameAt_28 : decode cX5_isNameAt 28 = .ok (.if_icmp .eq 5, 3) := by decide +kernel
theorem dX5_isNameAt_31 : decode cX5_isNameAt 31 = .ok (.iconst 0, 1) := by decide +kernel
theorem dX5_isNameAt_32 : decode cX5_isNameAt 32 = .ok (.ireturn, 1) := by decide +kernel
theorem dX5_isNameAt_33 : decode cX5_isNameAt 33 = .ok (.iinc 4 1, 3) := by decide +kernel
theorem dX5_isNameAt_36 : decode cX5_isNameAt 36 = .ok (.goto (-33), 3) := by decide +kernel
theorem dX5_isNameAt_39 : decode cX5_isNameAt 39 = .ok (.iconst 1, 1) := by decide +kernel
theorem dX5_isNameAt_40 : decode cX5_isNameAt 40 = .ok (.ireturn, 1) := by decide +kernel
set_option maxRecDepth 20000 in
theorem ggX6_init_X7_init : GoodIn wsX6_init wsX7_init := goodIn_r _ [13, 14, 2, 3] (by decide +kernel) (by decide +kernel)
set_option maxRecDepth 20000 in
theorem gX6_init_X7_init_n15 : GoodIn wsX6_init (wsX7_init) := ggX6_init_X7_init
theorem dX6_init_0 : decode cX6_init 0 = .ok (.aload_n 0, 1) := by decide +kernel
theorem dX6_init_1 : decode cX6_init 1 = .ok (.invokespecial 1, 3) := by decide +kernel
theorem dX6_init_4 : decode cX6_init 4 = .ok (.aload_n 0, 1) := by decide +kernel
theorem dX6_init_5 : decode cX6_init 5 = .ok (.sipush 200, 3) := by decide +kernel
theorem dX6_init_8 : decode cX6_init 8 = .ok (.newarray .int, 2) := by decide +kernel
theorem dX6_init_10 : decode cX6_init 10 = .ok (.putfield 9, 3) := by decide +kernel
theorem dX6_init_13 : decode cX6_init 13 = .ok (.aload_n 0, 1) := by decide +kernel
theorem dX6_init_14 : decode cX6_init 14 = .ok (.new 13, 3) := by decide +kernel
theorem dX6_init_17 : decode cX6_init 17 = .ok (.dup, 1) := by decide +kernel
theorem dX6_init_18 : decode cX6_init 18 = .ok (.invokespecial 15, 3) := by decide +kernel
theorem dX6_init_21 : decode cX6_init 21 = .ok (.putfield 16, 3) := by decide +kernel
theorem dX6_init_24 : decode cX6_init 24 = .ok (.aload_n 0, 1) := by decide +kernel
theorem dX6_init_25 : decode cX6_init 25 = .ok (.new 13, 3) := by decide +kernel
theorem dX6_init_28 : decode cX6_init 28 = .ok (.dup, 1) := by decide +kernel
theorem dX6_init_29 : decode cX6_init 29 = .ok (.invokespecial 15, 3) := by decide +kernel
theorem dX6_init_32 : decode cX6_init 32 = .ok (.putfield 20, 3) := by decide +kernel
theorem dX6_init_35 : decode cX6_init 35 = .ok (.aload_n 0, 1) := by decide +kernel
theorem dX6_init_36 : decode cX6_init 36 = .ok (.new 13, 3) := by decide +kernel
theorem dX6_init_39 : decode cX6_init 39 = .ok (.dup, 1) := by decide +kernel
theorem dX6_init_40 : decode cX6_init 40 = .ok (.invokespecial 15, 3) := by decide +kernel
theorem dX6_init_43 : decode cX6_init 43 = .ok (.putfield 23, 3) := by decide +kernel
theorem dX6_init_46 : decode cX6_init 46 = .ok (.return_, 1) := by decide +kernel
set_option maxRecDepth 20000 in
theorem ggX6_take_X7_forget : GoodIn wsX6_take wsX7_forget := goodIn_r _ [10, 11, 12, 13, 47, 48, 49] (by decide +kernel) (by decide +kernel)
set_option maxRecDepth 20000 in
theorem gX6_take_X7_forget : GoodIn wsX6_take (wsV RX6 26 RX7 yX7_forget wsX7_forget) := goodIn_app (goodIn_of _ (by decide +kernel)) ggX6_take_X7_forget
set_option maxRecDepth 20000 in
theorem ggX6_take_X2_byteAt : GoodIn wsX6_take wsX2_byteAt := goodIn_r _ [18, 19, 20, 21, 22, 17, 23, 24, 25, 26, 27, 28, 29, 30, 31, 32, 33, 50, 51, 52, 53, 54, 55, 56, 57, 58, 59, 60, 61, 62, 63, 64] (by decide +kernel) (by decide +kernel)
set_option maxRecDepth 20000 in
theorem gX6_take_X2_byteAt : GoodIn wsX6_take (wsV RX6 29 RX2 yX2_byteAt wsX2_byteAt) := goodIn_app (goodIn_of _ (by decide +kernel)) ggX6_take_X2_byteAt
set_option maxRecDepth 20000 in
theorem ggX6_take_X6_takeLine : GoodIn wsX6_take wsX6_takeLine := goodIn_r _ [38, 4, 1, 2, 3, 39, 40, 41, 9, 42, 11, 12, 13, 43, 44, 45, 46, 47, 48, 49] (by decide +kernel) (by decide +kernel)
set_option maxRecDepth 20000 in
theorem gX6_take_X6_takeLine : GoodIn wsX6_take (wsV RX6 35 RX6 yX6_takeLine wsX6_takeLine) := goodIn_app (goodIn_of _ (by decide +kernel)) ggX6_take_X6_takeLine
theorem dX6_take_0 : decode cX6_take 0 = .ok (.iload_n 2, 1) := by decide +kernel
theorem dX6_take_1 : decode cX6_take 1 = .ok (.sipush 200, 3) := by decide +kernel
theorem dX6_take_4 : decode cX6_take 4 = .ok (.if_icmp .le 5, 3) := by decide +kernel
theorem dX6_take_7 : decode cX6_take 7 = .ok (.iconst 0, 1) := by decide +kernel
theorem dX6_take_8 : decode cX6_take 8 = .ok (.ireturn, 1) := by decide +kernel
theorem dX6_take_9 : decode cX6_take 9 = .ok (.aload_n 0, 1) := by decide +kernel
theorem dX6_take_10 : decode cX6_take 10 = .ok (.getfield 16, 3) := by decide +kernel
theorem dX6_take_13 : decode cX6_take 13 = .ok (.invokevirtual 26, 3) := by decide +kernel
theorem dX6_take_16 : decode cX6_take 16 = .ok (.aload_n 0, 1) := by decide +kernel
theorem dX6_take_17 : decode cX6_take 17 = .ok (.getfield 20, 3) := by decide +kernel
theorem dX6_take_20 : decode cX6_take 20 = .ok (.invokevirtual 26, 3) := by decide +kernel
theorem dX6_take_23 : decode cX6_take 23 = .ok (.aload_n 0, 1) := by decide +kernel
theorem dX6_take_24 : decode cX6_take 24 = .ok (.getfield 23, 3) := by decide +kernel
theorem dX6_take_27 : decode cX6_take 27 = .ok (.invokevirtual 26, 3) := by decide +kernel
theorem dX6_take_30 : decode cX6_take 30 = .ok (.iconst 0, 1) := by decide +kernel
theorem dX6_take_31 : decode cX6_take 31 = .ok (.istore_n 3, 1) := by decide +kernel
theorem dX6_take_32 : decode cX6_take 32 = .ok (.iload_n 3, 1) := by decide +kernel
theorem dX6_take_33 : decode cX6_take 33 = .ok (.iload_n 2, 1) := by decide +kernel
theorem dX6_take_34 : decode cX6_take 34 = .ok (.if_icmp .ge 20, 3) := by decide +kernel
theorem dX6_take_37 : decode cX6_take 37 = .ok (.aload_n 0, 1) := by decide +kernel
theorem dX6_take_38 : decode cX6_take 38 = .ok (.getfield 9, 3) := by decide +kernel
theorem dX6_take_41 : decode cX6_take 41 = .ok (.iload_n 3, 1) := by decide +kernel
theorem dX6_take_42 : decode cX6_take 42 = .ok (.aload_n 1, 1) := by decide +kernel
theorem dX6_take_43 : decode cX6_take 43 = .ok (.iload_n 3, 1) := by decide +kernel
theorem dX6_take_44 : decode cX6_take 44 = .ok (.invokevirtual 29, 3) := by decide +kernel
theorem dX6_take_47 : decode cX6_take 47 = .ok (.iastore, 1) := by decide +kernel
theorem dX6_take_48 : decode cX6_take 48 = .ok (.iinc 3 1, 3) := by decide +kernel
theorem dX6_take_51 : decode cX6_take 51 = .ok (.goto (-19), 3) := by decide +kernel
theorem dX6_take_54 : decode cX6_take 54 = .ok (.iconst 0, 1) := by decide +kernel
theorem dX6_take_55 : decode cX6_take 55 = .ok (.istore_n 3, 1) := by decide +kernel
theorem dX6_take_56 : decode cX6_take 56 = .ok (.iconst 0, 1) := by decide +kernel
theorem dX6_take_57 : decode cX6_take 57 = .ok (.istore 4, 2) := by decide +kernel
theorem dX6_take_59 : decode cX6_take 59 = .ok (.iload 4, 2) := by decide +kernel
theorem dX6_take_61 : decode cX6_take 61 = .ok (.iload_n 2, 1) := by decide +kernel
theorem dX6_take_62 : decode cX6_take 62 = .ok (.if_icmp .gt 44, 3) := by decide +kernel
theorem dX6_take_65 : decode cX6_take 65 = .ok (.iload 4, 2) := by decide +kernel
theorem dX6_take_67 : decode cX6_take 67 = .ok (.iload_n 2, 1) := by decide +kernel
theorem dX6_take_68 : decode cX6_take 68 = .ok (.if_icmp .eq 15, 3) := by decide +kernel
theorem dX6_take_71 : decode cX6_take 71 = .ok (.aload_n 0, 1) := by decide +kernel
theorem dX6_take_72 : decode cX6_take 72 = .ok (.getfield 9, 3) := by decide +kernel
theorem dX6_take_75 : decode cX6_take 75 = .ok (.iload 4, 2) := by decide +kernel
theorem dX6_take_77 : decode cX6_take 77 = .ok (.iaload, 1) := by decide +kernel
theorem dX6_take_78 : decode cX6_take 78 = .ok (.bipush 10, 2) := by decide +kernel
theorem dX6_take_80 : decode cX6_take 80 = .ok (.if_icmp .ne 20, 3) := by decide +kernel
theorem dX6_take_83 : decode cX6_take 83 = .ok (.aload_n 0, 1) := by decide +kernel
theorem dX6_take_84 : decode cX6_take 84 = .ok (.iload_n 3, 1) := by decide +kernel
theorem dX6_take_85 : decode cX6_take 85 = .ok (.iload 4, 2) := by decide +kernel
theorem dX6_take_87 : decode cX6_take 87 = .ok (.invokevirtual 35, 3) := by decide +kernel
theorem dX6_take_90 : decode cX6_take 90 = .ok (.ifCond .ne 5, 3) := by decide +kernel
theorem dX6_take_93 : decode cX6_take 93 = .ok (.iconst 0, 1) := by decide +kernel
theorem dX6_take_94 : decode cX6_take 94 = .ok (.ireturn, 1) := by decide +kernel
theorem dX6_take_95 : decode cX6_take 95 = .ok (.iload 4, 2) := by decide +kernel
theorem dX6_take_97 : decode cX6_take 97 = .ok (.iconst 1, 1) := by decide +kernel
theorem dX6_take_98 : decode cX6_take 98 = .ok (.iadd, 1) := by decide +kernel
theorem dX6_take_99 : decode cX6_take 99 = .ok (.istore_n 3, 1) := by decide +kernel
theorem dX6_take_100 : decode cX6_take 100 = .ok (.iinc 4 1, 3) := by decide +kernel
theorem dX6_take_103 : decode cX6_take 103 = .ok (.goto (-44), 3) := by decide +kernel
theorem dX6_take_106 : decode cX6_take 106 = .ok (.aload_n 0, 1) := by decide +kernel
theorem dX6_take_107 : decode cX6_take 107 = .ok (.getfield 16, 3) := by decide +kernel
theorem dX6_take_110 : decode cX6_take 110 = .ok (.getfield 39, 3) := by decide +kernel
theorem dX6_take_113 : decode cX6_take 113 = .ok (.ireturn, 1) := by decide +kernel
set_option maxRecDepth 20000 in
theorem ggX6_takeLine_X7_set : GoodIn wsX6_takeLine wsX7_set := goodIn_r _ [9, 10, 11, 12, 17, 18, 19] (by decide +kernel) (by decide +kernel)
set_option maxRecDepth 20000 in
theorem gX6_takeLine_X7_set : GoodIn wsX6_takeLine (wsV RX6 43 RX7 yX7_set wsX7_set) := goodIn_app (goodIn_of _ (by decide +kernel)) ggX6_takeLine_X7_set
theorem dX6_takeLine_0 : decode cX6_takeLine 0 = .ok (.iload_n 1, 1) := by decide +kernel
theorem dX6_takeLine_1 : decode cX6_takeLine 1 = .ok (.iload_n 2, 1) := by decide +kernel
theorem dX6_takeLine_2 : decode cX6_takeLine 2 = .ok (.if_icmp .ge 14, 3) := by decide +kernel

theorem dX6_takeLine_5 : decode cX6_takeLine 5 = .ok (.aload_n 0, 1) := by decide +kernel
theorem dX6_takeLine_6 : decode cX6_takeLine 6 = .ok (.getfield 9, 3) := by decide +kernel
theorem dX6_takeLine_9 : decode cX6_takeLine 9 = .ok (.iload_n 1, 1) := by decide +kernel
theorem dX6_takeLine_10 : decode cX6_takeLine 10 = .ok (.iaload, 1) := by decide +kernel
theorem dX6_takeLine_11 : decode cX6_takeLine 11 = .ok (.bipush 35, 2) := by decide +kernel
theorem dX6_takeLine_13 : decode cX6_takeLine 13 = .ok (.if_icmp .ne 5, 3) := by decide +kernel
theorem dX6_takeLine_16 : decode cX6_takeLine 16 = .ok (.iconst 1, 1) := by decide +kernel
theorem dX6_takeLine_17 : decode cX6_takeLine 17 = .ok (.ireturn, 1) := by decide +kernel
theorem dX6_takeLine_18 : decode cX6_takeLine 18 = .ok (.iload_n 2, 1) := by decide +kernel
theorem dX6_takeLine_19 : decode cX6_takeLine 19 = .ok (.iload_n 1, 1) := by decide +kernel
theorem dX6_takeLine_20 : decode cX6_takeLine 20 = .ok (.isub, 1) := by decide +kernel
theorem dX6_takeLine_21 : decode cX6_takeLine 21 = .ok (.iconst 2, 1) := by decide +kernel
theorem dX6_takeLine_22 : decode cX6_takeLine 22 = .ok (.if_icmp .lt 16, 3) := by decide +kernel
theorem dX6_takeLine_25 : decode cX6_takeLine 25 = .ok (.aload_n 0, 1) := by decide +kernel
theorem dX6_takeLine_26 : decode cX6_takeLine 26 = .ok (.getfield 9, 3) := by decide +kernel
theorem dX6_takeLine_29 : decode cX6_takeLine 29 = .ok (.iload_n 1, 1) := by decide +kernel
theorem dX6_takeLine_30 : decode cX6_takeLine 30 = .ok (.iconst 1, 1) := by decide +kernel
theorem dX6_takeLine_31 : decode cX6_takeLine 31 = .ok (.iadd, 1) := by decide +kernel
theorem dX6_takeLine_32 : decode cX6_takeLine 32 = .ok (.iaload, 1) := by decide +kernel
theorem dX6_takeLine_33 : decode cX6_takeLine 33 = .ok (.bipush 61, 2) := by decide +kernel
theorem dX6_takeLine_35 : decode cX6_takeLine 35 = .ok (.if_icmp .eq 5, 3) := by decide +kernel
theorem dX6_takeLine_38 : decode cX6_takeLine 38 = .ok (.iconst 0, 1) := by decide +kernel
theorem dX6_takeLine_39 : decode cX6_takeLine 39 = .ok (.ireturn, 1) := by decide +kernel
theorem dX6_takeLine_40 : decode cX6_takeLine 40 = .ok (.aload_n 0, 1) := by decide +kernel
theorem dX6_takeLine_41 : decode cX6_takeLine 41 = .ok (.getfield 9, 3) := by decide +kernel
theorem dX6_takeLine_44 : decode cX6_takeLine 44 = .ok (.iload_n 1, 1) := by decide +kernel
theorem dX6_takeLine_45 : decode cX6_takeLine 45 = .ok (.iaload, 1) := by decide +kernel
theorem dX6_takeLine_46 : decode cX6_takeLine 46 = .ok (.lookupswitch 87 #[(65, 60), (70, 47), (75, 34)], 34) := by decide +kernel
theorem dX6_takeLine_80 : decode cX6_takeLine 80 = .ok (.aload_n 0, 1) := by decide +kernel
theorem dX6_takeLine_81 : decode cX6_takeLine 81 = .ok (.getfield 16, 3) := by decide +kernel
theorem dX6_takeLine_84 : decode cX6_takeLine 84 = .ok (.iload_n 1, 1) := by decide +kernel
theorem dX6_takeLine_85 : decode cX6_takeLine 85 = .ok (.iconst 2, 1) := by decide +kernel
theorem dX6_takeLine_86 : decode cX6_takeLine 86 = .ok (.iadd, 1) := by decide +kernel
theorem dX6_takeLine_87 : decode cX6_takeLine 87 = .ok (.iload_n 2, 1) := by decide +kernel
theorem dX6_takeLine_88 : decode cX6_takeLine 88 = .ok (.invokevirtual 43, 3) := by decide +kernel
theorem dX6_takeLine_91 : decode cX6_takeLine 91 = .ok (.iconst 1, 1) := by decide +kernel
theorem dX6_takeLine_92 : decode cX6_takeLine 92 = .ok (.ireturn, 1) := by decide +kernel
theorem dX6_takeLine_93 : decode cX6_takeLine 93 = .ok (.aload_n 0, 1) := by decide +kernel
theorem dX6_takeLine_94 : decode cX6_takeLine 94 = .ok (.getfield 20, 3) := by decide +kernel
theorem dX6_takeLine_97 : decode cX6_takeLine 97 = .ok (.iload_n 1, 1) := by decide +kernel
theorem dX6_takeLine_98 : decode cX6_takeLine 98 = .ok (.iconst 2, 1) := by decide +kernel
theorem dX6_takeLine_99 : decode cX6_takeLine 99 = .ok (.iadd, 1) := by decide +kernel
theorem dX6_takeLine_100 : decode cX6_takeLine 100 = .ok (.iload_n 2, 1) := by decide +kernel
theorem dX6_takeLine_101 : decode cX6_takeLine 101 = .ok (.invokevirtual 43, 3) := by decide +kernel
theorem dX6_takeLine_104 : decode cX6_takeLine 104 = .ok (.iconst 1, 1) := by decide +kernel
theorem dX6_takeLine_105 : decode cX6_takeLine 105 = .ok (.ireturn, 1) := by decide +kernel
theorem dX6_takeLine_106 : decode cX6_takeLine 106 = .ok (.aload_n 0, 1) := by decide +kernel
theorem dX6_takeLine_107 : decode cX6_takeLine 107 = .ok (.getfield 23, 3) := by decide +kernel
theorem dX6_takeLine_110 : decode cX6_takeLine 110 = .ok (.iload_n 1, 1) := by decide +kernel
theorem dX6_takeLine_111 : decode cX6_takeLine 111 = .ok (.iconst 2, 1) := by decide +kernel
theorem dX6_takeLine_112 : decode cX6_takeLine 112 = .ok (.iadd, 1) := by decide +kernel
theorem dX6_takeLine_113 : decode cX6_takeLine 113 = .ok (.iload_n 2, 1) := by decide +kernel
theorem dX6_takeLine_114 : decode cX6_takeLine 114 = .ok (.invokevirtual 43, 3) := by decide +kernel
theorem dX6_takeLine_117 : decode cX6_takeLine 117 = .ok (.iload_n 2, 1) := by decide +kernel
theorem dX6_takeLine_118 : decode cX6_takeLine 118 = .ok (.iload_n 1, 1) := by decide +kernel
theorem dX6_takeLine_119 : decode cX6_takeLine 119 = .ok (.isub, 1) := by decide +kernel
theorem dX6_takeLine_120 : decode cX6_takeLine 120 = .ok (.iconst 2, 1) := by decide +kernel
theorem dX6_takeLine_121 : decode cX6_takeLine 121 = .ok (.isub, 1) := by decide +kernel
theorem dX6_takeLine_122 : decode cX6_takeLine 122 = .ok (.bipush 24, 2) := by decide +kernel
theorem dX6_takeLine_124 : decode cX6_takeLine 124 = .ok (.if_icmp .gt 7, 3) := by decide +kernel
theorem dX6_takeLine_127 : decode cX6_takeLine 127 = .ok (.iconst 1, 1) := by decide +kernel
theorem dX6_takeLine_128 : decode cX6_takeLine 128 = .ok (.goto 4, 3) := by decide +kernel
theorem dX6_takeLine_131 : decode cX6_takeLine 131 = .ok (.iconst 0, 1) := by decide +kernel
theorem dX6_takeLine_132 : decode cX6_takeLine 132 = .ok (.ireturn, 1) := by decide +kernel
theorem dX6_takeLine_133 : decode cX6_takeLine 133 = .ok (.iconst 1, 1) := by decide +kernel
theorem dX6_takeLine_134 : decode cX6_takeLine 134 = .ok (.ireturn, 1) := by decide +kernel
theorem dX7_init_0 : decode cX7_init 0 = .ok (.aload_n 0, 1) := by decide +kernel
theorem dX7_init_1 : decode cX7_init 1 = .ok (.invokespecial 1, 3) := by decide +kernel
theorem dX7_init_4 : decode cX7_init 4 = .ok (.return_, 1) := by decide +kernel
theorem dX7_forget_0 : decode cX7_forget 0 = .ok (.aload_n 0, 1) := by decide +kernel
theorem dX7_forget_1 : decode cX7_forget 1 = .ok (.iconst 0, 1) := by decide +kernel
theorem dX7_forget_2 : decode cX7_forget 2 = .ok (.putfield 7, 3) := by decide +kernel
theorem dX7_forget_5 : decode cX7_forget 5 = .ok (.aload_n 0, 1) := by decide +kernel
theorem dX7_forget_6 : decode cX7_forget 6 = .ok (.iconst 0, 1) := by decide +kernel
theorem dX7_forget_7 : decode cX7_forget 7 = .ok (.putfield 13, 3) := by decide +kernel
theorem dX7_forget_10 : decode cX7_forget 10 = .ok (.aload_n 0, 1) := by decide +kernel
theorem dX7_forget_11 : decode cX7_forget 11 = .ok (.iconst 0, 1) := by decide +kernel
theorem dX7_forget_12 : decode cX7_forget 12 = .ok (.putfield 17, 3) := by decide +kernel
theorem dX7_forget_15 : decode cX7_forget 15 = .ok (.return_, 1) := by decide +kernel
theorem dX7_set_0 : decode cX7_set 0 = .ok (.aload_n 0, 1) := by decide +kernel
theorem dX7_set_1 : decode cX7_set 1 = .ok (.iconst 1, 1) := by decide +kernel
theorem dX7_set_2 : decode cX7_set 2 = .ok (.putfield 7, 3) := by decide +kernel
theorem dX7_set_5 : decode cX7_set 5 = .ok (.aload_n 0, 1) := by decide +kernel
theorem dX7_set_6 : decode cX7_set 6 = .ok (.iload_n 1, 1) := by decide +kernel
theorem dX7_set_7 : decode cX7_set 7 = .ok (.putfield 13, 3) := by decide +kernel
theorem dX7_set_10 : decode cX7_set 10 = .ok (.aload_n 0, 1) := by decide +kernel
theorem dX7_set_11 : decode cX7_set 11 = .ok (.iload_n 2, 1) := by decide +kernel
theorem dX7_set_12 : decode cX7_set 12 = .ok (.putfield 17, 3) := by decide +kernel
theorem dX7_set_15 : decode cX7_set 15 = .ok (.return_, 1) := by decide +kernel
theorem dX8_init_0 : decode cX8_init 0 = .ok (.aload_n 0, 1) := by decide +kernel
theorem dX8_init_1 : decode cX8_init 1 = .ok (.invokespecial 3, 3) := by decide +kernel
theorem dX8_init_4 : decode cX8_init 4 = .ok (.aload_n 0, 1) := by decide +kernel
theorem dX8_init_5 : decode cX8_init 5 = .ok (.aload_n 1, 1) := by decide +kernel
theorem dX8_init_6 : decode cX8_init 6 = .ok (.putfield 9, 3) := by decide +kernel
theorem dX8_init_9 : decode cX8_init 9 = .ok (.return_, 1) := by decide +kernel
set_option maxRecDepth 20000 in
theorem ggX8_mount_X8_isSigned : GoodIn wsX8_mount wsX8_isSigned := goodIn_r _ [8, 2, 9, 10, 11, 12, 13, 14, 41, 42, 43, 44, 45, 46, 47, 48, 49, 50] (by decide +kernel) (by decide +kernel)
set_option maxRecDepth 20000 in
theorem gX8_mount_X8_isSigned : GoodIn wsX8_mount (wsV RX8 15 RX8 yX8_isSigned wsX8_isSigned) := goodIn_app (goodIn_of _ (by decide +kernel)) ggX8_mount_X8_isSigned
set_option maxRecDepth 20000 in
theorem ggX8_mount_X8_choosePartition : GoodIn wsX8_mount wsX8_choosePartition := goodIn_r _ [18, 2, 19, 20, 21, 7, 22, 23, 24, 25, 26, 9, 10, 11, 12, 13, 14, 41, 42, 43, 44, 45, 46, 47, 48, 49, 50] (by decide +kernel) (by decide +kernel)
set_option maxRecDepth 20000 in
theorem gX8_mount_X8_choosePartition : GoodIn wsX8_mount (wsV RX8 19 RX8 yX8_choosePartition wsX8_choosePartition) := goodIn_app (goodIn_of _ (by decide +kernel)) ggX8_mount_X8_choosePartition
set_option maxRecDepth 20000 in
theorem ggX8_mount_X8_placeOfRecord : GoodIn wsX8_mount wsX8_placeOfRecord := goodIn_r _ [26] (by decide +kernel) (by decide +kernel)
set_option maxRecDepth 20000 in
theorem gX8_mount_X8_placeOfRecord : GoodIn wsX8_mount (wsV RX8 27 RX8 yX8_placeOfRecord wsX8_placeOfRecord) := goodIn_app (goodIn_of _ (by decide +kernel)) ggX8_mount_X8_placeOfRecord
set_option maxRecDepth 20000 in
theorem ggX8_mount_X0_byteAt : GoodIn wsX8_mount wsX0_byteAt := goodIn_r _ [13, 14, 50] (by decide +kernel) (by decide +kernel)
set_option maxRecDepth 20000 in
theorem gX8_mount_X0_byteAt : GoodIn wsX8_mount (wsV RX8 31 RX0 yX0_byteAt wsX0_byteAt) := goodIn_app (goodIn_of _ (by decide +kernel)) ggX8_mount_X0_byteAt
set_option maxRecDepth 20000 in
theorem ggX8_mount_X8_takeGeometry : GoodIn wsX8_mount wsX8_takeGeometry := goodIn_r _ [30, 2, 31, 32, 3, 33, 34, 35, 36, 9, 10, 11, 12, 13, 14, 4, 5, 6, 7, 8, 37, 38, 39, 40, 41, 42, 43, 44, 45, 46, 47, 48, 49, 50] (by decide +kernel) (by decide +kernel)
set_option maxRecDepth 20000 in
theorem gX8_mount_X8_takeGeometry : GoodIn wsX8_mount (wsV RX8 36 RX8 yX8_takeGeometry wsX8_takeGeometry) := goodIn_app (goodIn_of _ (by decide +kernel)) ggX8_mount_X8_takeGeometry
theorem dX8_mount_0 : decode cX8_mount 0 = .ok (.aload_n 0, 1) := by decide +kernel
theorem dX8_mount_1 : decode cX8_mount 1 = .ok (.iconst 0, 1) := by decide +kernel
theorem dX8_mount_2 : decode cX8_mount 2 = .ok (.invokevirtual 15, 3) := by decide +kernel
theorem dX8_mount_5 : decode cX8_mount 5 = .ok (.ifCond .ne 6, 3) := by decide +kernel
theorem dX8_mount_8 : decode cX8_mount 8 = .ok (.bipush (-2), 2) := by decide +kernel
theorem dX8_mount_10 : decode cX8_mount 10 = .ok (.ireturn, 1) := by decide +kernel
theorem dX8_mount_11 : decode cX8_mount 11 = .ok (.aload_n 0, 1) := by decide +kernel
theorem dX8_mount_12 : decode cX8_mount 12 = .ok (.aload_n 0, 1) := by decide +kernel
theorem dX8_mount_13 : decode cX8_mount 13 = .ok (.invokevirtual 19, 3) := by decide +kernel
theorem dX8_mount_16 : decode cX8_mount 16 = .ok (.putfield 23, 3) := by decide +kernel
theorem dX8_mount_19 : decode cX8_mount 19 = .ok (.aload_n 0, 1) := by decide +kernel
theorem dX8_mount_20 : decode cX8_mount 20 = .ok (.getfield 23, 3) := by decide +kernel
theorem dX8_mount_23 : decode cX8_mount 23 = .ok (.ifCond .ge 6, 3) := by decide +kernel
theorem dX8_mount_26 : decode cX8_mount 26 = .ok (.bipush (-3), 2) := by decide +kernel
theorem dX8_mount_28 : decode cX8_mount 28 = .ok (.ireturn, 1) := by decide +kernel
theorem dX8_mount_29 : decode cX8_mount 29 = .ok (.aload_n 0, 1) := by decide +kernel
theorem dX8_mount_30 : decode cX8_mount 30 = .ok (.aload_n 0, 1) := by decide +kernel
theorem dX8_mount_31 : decode cX8_mount 31 = .ok (.getfield 23, 3) := by decide +kernel
theorem dX8_mount_34 : decode cX8_mount 34 = .ok (.invokevirtual 27, 3) := by decide +kernel
theorem dX8_mount_37 : decode cX8_mount 37 = .ok (.istore_n 1, 1) := by decide +kernel
theorem dX8_mount_38 : decode cX8_mount 38 = .ok (.aload_n 0, 1) := by decide +kernel
theorem dX8_mount_39 : decode cX8_mount 39 = .ok (.aload_n 0, 1) := by decide +kernel
theorem dX8_mount_40 : decode cX8_mount 40 = .ok (.getfield 9, 3) := by decide +kernel
theorem dX8_mount_43 : decode cX8_mount 43 = .ok (.iload_n 1, 1) := by decide +kernel
theorem dX8_mount_44 : decode cX8_mount 44 = .ok (.iconst 2, 1) := by decide +kernel
theorem dX8_mount_45 : decode cX8_mount 45 = .ok (.iadd, 1) := by decide +kernel
theorem dX8_mount_46 : decode cX8_mount 46 = .ok (.invokevirtual 31, 3) := by decide +kernel
theorem dX8_mount_49 : decode cX8_mount 49 = .ok (.bipush 32, 2) := by decide +kernel
theorem dX8_mount_51 : decode cX8_mount 51 = .ok (.imul, 1) := by decide +kernel
theorem dX8_mount_52 : decode cX8_mount 52 = .ok (.aload_n 0, 1) := by decide +kernel
theorem dX8_mount_53 : decode cX8_mount 53 = .ok (.getfield 9, 3) := by decide +kernel
theorem dX8_mount_56 : decode cX8_mount 56 = .ok (.iload_n 1, 1) := by decide +kernel
theorem dX8_mount_57 : decode cX8_mount 57 = .ok (.iconst 3, 1) := by decide +kernel
theorem dX8_mount_58 : decode cX8_mount 58 = .ok (.iadd, 1) := by decide +kernel
theorem dX8_mount_59 : decode cX8_mount 59 = .ok (.invokevirtual 31, 3) := by decide +kernel
theorem dX8_mount_62 : decode cX8_mount 62 = .ok (.invokevirtual 36, 3) := by decide +kernel
theorem dX8_mount_65 : decode cX8_mount 65 = .ok (.ifCond .eq 10, 3) := by decide +kernel
theorem dX8_mount_68 : decode cX8_mount 68 = .ok (.aload_n 0, 1) := by decide +kernel
theorem dX8_mount_69 : decode cX8_mount 69 = .ok (.getfield 40, 3) := by decide +kernel
theorem dX8_mount_72 : decode cX8_mount 72 = .ok (.goto 5, 3) := by decide +kernel
theorem dX8_mount_75 : decode cX8_mount 75 = .ok (.bipush (-4), 2) := by decide +kernel
theorem dX8_mount_77 : decode cX8_mount 77 = .ok (.ireturn, 1) := by decide +kernel
set_option maxRecDepth 20000 in
theorem ggX8_isSigned_X0_byteAt : GoodIn wsX8_isSigned wsX0_byteAt := goodIn_r _ [6, 7, 17] (by decide +kernel) (by decide +kernel)
set_option maxRecDepth 20000 in
theorem gX8_isSigned_X0_byteAt : GoodIn wsX8_isSigned (wsV RX8 31 RX0 yX0_byteAt wsX0_byteAt) := goodIn_app (goodIn_of _ (by decide +kernel)) ggX8_isSigned_X0_byteAt
theorem dX8_isSigned_0 : decode cX8_isSigned 0 = .ok (.aload_n 0, 1) := by decide +kernel
theorem dX8_isSigned_1 : decode cX8_isSigned 1 = .ok (.getfield 9, 3) := by decide +kernel
theorem dX8_isSigned_4 : decode cX8_isSigned 4 = .ok (.iload_n 1, 1) := by decide +kernel
theorem dX8_isSigned_5 : decode cX8_isSigned 5 = .ok (.bipush 30, 2) := by decide +kernel
theorem dX8_isSigned_7 : decode cX8_isSigned 7 = .ok (.iadd, 1) := by decide +kernel
theorem dX8_isSigned_8 : decode cX8_isSigned 8 = .ok (.invokevirtual 31, 3) := by decide +kernel
theorem dX8_isSigned_11 : decode cX8_isSigned 11 = .ok (.bipush 85, 2) := by decide +kernel
theorem dX8_isSigned_13 : decode cX8_isSigned 13 = .ok (.if_icmp .ne 24, 3) := by decide +kernel
theorem dX8_isSigned_16 : decode cX8_isSigned 16 = .ok (.aload_n 0, 1) := by decide +kernel
theorem dX8_isSigned_17 : decode cX8_isSigned 17 = .ok (.getfield 9, 3) := by decide +kernel
theorem dX8_isSigned_20 : decode cX8_isSigned 20 = .ok (.iload_n 1, 1) := by decide +kernel
theorem dX8_isSigned_21 : decode cX8_isSigned 21 = .ok (.bipush 31, 2) := by decide +kernel
theorem dX8_isSigned_23 : decode cX8_isSigned 23 = .ok (.iadd, 1) := by decide +kernel
theorem dX8_isSigned_24 : decode cX8_isSigned 24 = .ok (.invokevirtual 31, 3) := by decide +kernel
theorem dX8_isSigned_27 : decode cX8_isSigned 27 = .ok (.sipush 170, 3) := by decide +kernel
theorem dX8_isSigned_30 : decode cX8_isSigned 30 = .ok (.if_icmp .ne 7, 3) := by decide +kernel
theorem dX8_isSigned_33 : decode cX8_isSigned 33 = .ok (.iconst 1, 1) := by decide +kernel
theorem dX8_isSigned_34 : decode cX8_isSigned 34 = .ok (.goto 4, 3) := by decide +kernel
theorem dX8_isSigned_37 : decode cX8_isSigned 37 = .ok (.iconst 0, 1) := by decide +kernel
theorem dX8_isSigned_38 : decode cX8_isSigned 38 = .ok (.ireturn, 1) := by decide +kernel
theorem dX8_placeOfRecord_0 : decode cX8_placeOfRecord 0 = .ok (.bipush 6, 2) := by decide +kernel
theorem dX8_placeOfRecord_2 : decode cX8_placeOfRecord 2 = .ok (.bipush 8, 2) := by decide +kernel
theorem dX8_placeOfRecord_4 : decode cX8_placeOfRecord 4 = .ok (.iload_n 1, 1) := by decide +kernel
theorem dX8_placeOfRecord_5 : decode cX8_placeOfRecord 5 = .ok (.imul, 1) := by decide +kernel
theorem dX8_placeOfRecord_6 : decode cX8_placeOfRecord 6 = .ok (.iadd, 1) := by decide +kernel
theorem dX8_placeOfRecord_7 : decode cX8_placeOfRecord 7 = .ok (.ireturn, 1) := by decide +kernel
set_option maxRecDepth 20000 in
theorem ggX8_choosePartition_X8_isUsable : GoodIn wsX8_choosePartition wsX8_isUsable := goodIn_r _ [6, 1, 7, 8, 9, 5, 10, 11, 12, 13, 14, 15, 16, 17, 18, 19, 20, 21, 22, 23, 24, 25, 26] (by decide +kernel) (by decide +kernel)
set_option maxRecDepth 20000 in
theorem gX8_choosePartition_X8_isUsable : GoodIn wsX8_choosePartition (wsV RX8 43 RX8 yX8_isUsable wsX8_isUsable) := goodIn_app (goodIn_of _ (by decide +kernel)) ggX8_choosePartition_X8_isUsable
set_option maxRecDepth 20000 in
theorem ggX8_choosePartition_X8_placeOfRecord : GoodIn wsX8_choosePartition wsX8_placeOfRecord := goodIn_r _ [10] (by decide +kernel) (by decide +kernel)
set_option maxRecDepth 20000 in
theorem gX8_choosePartition_X8_placeOfRecord : GoodIn wsX8_choosePartition (wsV RX8 27 RX8 yX8_placeOfRecord wsX8_placeOfRecord) := goodIn_app (goodIn_of _ (by decide +kernel)) ggX8_choosePartition_X8_placeOfRecord
set_option maxRecDepth 20000 in
theorem ggX8_choosePartition_X0_byteAt : GoodIn wsX8_choosePartition wsX0_byteAt := goodIn_r _ [15, 16, 26] (by decide +kernel) (by decide +kernel)
set_option maxRecDepth 20000 in
theorem gX8_choosePartition_X0_byteAt : GoodIn wsX8_choosePartition (wsV RX8 31 RX0 yX0_byteAt wsX0_byteAt) := goodIn_app (goodIn_of _ (by decide +kernel)) ggX8_choosePartition_X0_byteAt
theorem dX8_choosePartition_0 : decode cX8_choosePartition 0 = .ok (.iconst (-1), 1) := by decide +kernel
theorem dX8_choosePartition_1 : decode cX8_choosePartition 1 = .ok (.istore_n 1, 1) := by decide +kernel
theorem dX8_choosePartition_2 : decode cX8_choosePartition 2 = .ok (.iconst 0, 1) := by decide +kernel
theorem dX8_choosePartition_3 : decode cX8_choosePartition 3 = .ok (.istore_n 2, 1) := by decide +kernel
theorem dX8_choosePartition_4 : decode cX8_choosePartition 4 = .ok (.iload_n 2, 1) := by decide +kernel
theorem dX8_choosePartition_5 : decode cX8_choosePartition 5 = .ok (.iconst 3, 1) := by decide +kernel
theorem dX8_choosePartition_6 : decode cX8_choosePartition 6 = .ok (.if_icmp .ge 46, 3) := by decide +kernel
theorem dX8_choosePartition_9 : decode cX8_choosePartition 9 = .ok (.aload_n 0, 1) := by decide +kernel
theorem dX8_choosePartition_10 : decode cX8_choosePartition 10 = .ok (.iload_n 2, 1) := by decide +kernel
theorem dX8_choosePartition_11 : decode cX8_choosePartition 11 = .ok (.invokevirtual 43, 3) := by decide +kernel
theorem dX8_choosePartition_14 : decode cX8_choosePartition 14 = .ok (.ifCond .ne 6, 3) := by decide +kernel
theorem dX8_choosePartition_17 : decode cX8_choosePartition 17 = .ok (.goto 29, 3) := by decide +kernel
theorem dX8_choosePartition_20 : decode cX8_choosePartition 20 = .ok (.aload_n 0, 1) := by decide +kernel
theorem dX8_choosePartition_21 : decode cX8_choosePartition 21 = .ok (.getfield 9, 3) := by decide +kernel
theorem dX8_choosePartition_24 : decode cX8_choosePartition 24 = .ok (.aload_n 0, 1) := by decide +kernel
theorem dX8_choosePartition_25 : decode cX8_choosePartition 25 = .ok (.iload_n 2, 1) := by decide +kernel
theorem dX8_choosePartition_26 : decode cX8_choosePartition 26 = .ok (.invokevirtual 27, 3) := by decide +kernel
theorem dX8_choosePartition_29 : decode cX8_choosePartition 29 = .ok (.invokevirtual 31, 3) := by decide +kernel
theorem dX8_choosePartition_32 : decode cX8_choosePartition 32 = .ok (.sipush 128, 3) := by decide +kernel
theorem dX8_choosePartition_35 : decode cX8_choosePartition 35 = .ok (.if_icmp .ne 5, 3) := by decide +kernel
theorem dX8_choosePartition_38 : decode cX8_choosePartition 38 = .ok (.iload_n 2, 1) := by decide +kernel
theorem dX8_choosePartition_39 : decode cX8_choosePartition 39 = .ok (.ireturn, 1) := by decide +kernel
theorem dX8_choosePartition_40 : decode cX8_choosePartition 40 = .ok (.iload_n 1, 1) := by decide +kernel
theorem dX8_choosePartition_41 : decode cX8_choosePartition 41 = .ok (.ifCond .ge 5, 3) := by decide +kernel
theorem dX8_choosePartition_44 : decode cX8_choosePartition 44 = .ok (.iload_n 2, 1) := by decide +kernel
theorem dX8_choosePartition_45 : decode cX8_choosePartition 45 = .ok (.istore_n 1, 1) := by decide +kernel
theorem dX8_choosePartition_46 : decode cX8_choosePartition 46 = .ok (.iinc 2 1, 3) := by decide +kernel
theorem dX8_choosePartition_49 : decode cX8_choosePartition 49 = .ok (.goto (-45), 3) := by decide +kernel
theorem dX8_choosePartition_52 : decode cX8_choosePartition 52 = .ok (.iload_n 1, 1) := by decide +kernel
theorem dX8_choosePartition_53 : decode cX8_choosePartition 53 = .ok (.ireturn, 1) := by decide +kernel
set_option maxRecDepth 20000 in
theorem ggX8_isUsable_X8_placeOfRecord : GoodIn wsX8_isUsable wsX8_placeOfRecord := goodIn_r _ [6] (by decide +kernel) (by decide +kernel)
set_option maxRecDepth 20000 in
theorem gX8_isUsable_X8_placeOfRecord : GoodIn wsX8_isUsable (wsV RX8 27 RX8 yX8_placeOfRecord wsX8_placeOfRecord) := goodIn_app (goodIn_of _ (by decide +kernel)) ggX8_isUsable_X8_placeOfRecord
set_option maxRecDepth 20000 in
theorem ggX8_isUsable_X0_byteAt : GoodIn wsX8_isUsable wsX0_byteAt := goodIn_r _ [11, 12, 22] (by decide +kernel) (by decide +kernel)
set_option maxRecDepth 20000 in
theorem gX8_isUsable_X0_byteAt : GoodIn wsX8_isUsable (wsV RX8 31 RX0 yX0_byteAt wsX0_byteAt) := goodIn_app (goodIn_of _ (by decide +kernel)) ggX8_isUsable_X0_byteAt
theorem dX8_isUsable_0 : decode cX8_isUsable 0 = .ok (.aload_n 0, 1) := by decide +kernel
theorem dX8_isUsable_1 : decode cX8_isUsable 1 = .ok (.iload_n 1, 1) := by decide +kernel
theorem dX8_isUsable_2 : decode cX8_isUsable 2 = .ok (.invokevirtual 27, 3) := by decide +kernel
theorem dX8_isUsable_5 : decode cX8_isUsable 5 = .ok (.istore_n 2, 1) := by decide +kernel
theorem dX8_isUsable_6 : decode cX8_isUsable 6 = .ok (.aload_n 0, 1) := by decide +kernel
theorem dX8_isUsable_7 : decode cX8_isUsable 7 = .ok (.getfield 9, 3) := by decide +kernel
theorem dX8_isUsable_10 : decode cX8_isUsable 10 = .ok (.iload_n 2, 1) := by decide +kernel
theorem dX8_isUsable_11 : decode cX8_isUsable 11 = .ok (.iconst 2, 1) := by decide +kernel
theorem dX8_isUsable_12 : decode cX8_isUsable 12 = .ok (.iadd, 1) := by decide +kernel
theorem dX8_isUsable_13 : decode cX8_isUsable 13 = .ok (.invokevirtual 31, 3) := by decide +kernel
theorem dX8_isUsable_16 : decode cX8_isUsable 16 = .ok (.istore_n 3, 1) := by decide +kernel
theorem dX8_isUsable_17 : decode cX8_isUsable 17 = .ok (.aload_n 0, 1) := by decide +kernel
theorem dX8_isUsable_18 : decode cX8_isUsable 18 = .ok (.getfield 9, 3) := by decide +kernel
theorem dX8_isUsable_21 : decode cX8_isUsable 21 = .ok (.iload_n 2, 1) := by decide +kernel
theorem dX8_isUsable_22 : decode cX8_isUsable 22 = .ok (.iconst 3, 1) := by decide +kernel
theorem dX8_isUsable_23 : decode cX8_isUsable 23 = .ok (.iadd, 1) := by decide +kernel
theorem dX8_isUsable_24 : decode cX8_isUsable 24 = .ok (.invokevirtual 31, 3) := by decide +kernel
theorem dX8_isUsable_27 : decode cX8_isUsable 27 = .ok (.istore 4, 2) := by decide +kernel
theorem dX8_isUsable_29 : decode cX8_isUsable 29 = .ok (.aload_n 0, 1) := by decide +kernel
theorem dX8_isUsable_30 : decode cX8_isUsable 30 = .ok (.getfield 9, 3) := by decide +kernel
theorem dX8_isUsable_33 : decode cX8_isUsable 33 = .ok (.iload_n 2, 1) := by decide +kernel
theorem dX8_isUsable_34 : decode cX8_isUsable 34 = .ok (.iconst 1, 1) := by decide +kernel
theorem dX8_isUsable_35 : decode cX8_isUsable 35 = .ok (.iadd, 1) := by decide +kernel
theorem dX8_isUsable_36 : decode cX8_isUsable 36 = .ok (.invokevirtual 31, 3) := by decide +kernel
theorem dX8_isUsable_39 : decode cX8_isUsable 39 = .ok (.bipush 12, 2) := by decide +kernel
theorem dX8_isUsable_41 : decode cX8_isUsable 41 = .ok (.if_icmp .ne 27, 3) := by decide +kernel
theorem dX8_isUsable_44 : decode cX8_isUsable 44 = .ok (.iload_n 3, 1) := by decide +kernel
theorem dX8_isUsable_45 : decode cX8_isUsable 45 = .ok (.iconst 1, 1) := by decide +kernel
theorem dX8_isUsable_46 : decode cX8_isUsable 46 = .ok (.if_icmp .lt 22, 3) := by decide +kernel
theorem dX8_isUsable_49 : decode cX8_isUsable 49 = .ok (.iload 4, 2) := by decide +kernel
theorem dX8_isUsable_51 : decode cX8_isUsable 51 = .ok (.iconst 1, 1) := by decide +kernel
theorem dX8_isUsable_52 : decode cX8_isUsable 52 = .ok (.if_icmp .lt 16, 3) := by decide +kernel
theorem dX8_isUsable_55 : decode cX8_isUsable 55 = .ok (.iload_n 3, 1) := by decide +kernel
theorem dX8_isUsable_56 : decode cX8_isUsable 56 = .ok (.iload 4, 2) := by decide +kernel
theorem dX8_isUsable_58 : decode cX8_isUsable 58 = .ok (.iadd, 1) := by decide +kernel
theorem dX8_isUsable_59 : decode cX8_isUsable 59 = .ok (.bipush 64, 2) := by decide +kernel
theorem dX8_isUsable_61 : decode cX8_isUsable 61 = .ok (.if_icmp .gt 7, 3) := by decide +kernel
theorem dX8_isUsable_64 : decode cX8_isUsable 64 = .ok (.iconst 1, 1) := by decide +kernel
theorem dX8_isUsable_65 : decode cX8_isUsable 65 = .ok (.goto 4, 3) := by decide +kernel
theorem dX8_isUsable_68 : decode cX8_isUsable 68 = .ok (.iconst 0, 1) := by decide +kernel
theorem dX8_isUsable_69 : decode cX8_isUsable 69 = .ok (.ireturn, 1) := by decide +kernel
set_option maxRecDepth 20000 in
theorem ggX8_takeGeometry_X0_byteAt : GoodIn wsX8_takeGeometry wsX0_byteAt := goodIn_r _ [13, 14, 33] (by decide +kernel) (by decide +kernel)
set_option maxRecDepth 20000 in
theorem gX8_takeGeometry_X0_byteAt : GoodIn wsX8_takeGeometry (wsV RX8 31 RX0 yX0_byteAt wsX0_byteAt) := goodIn_app (goodIn_of _ (by decide +kernel)) ggX8_takeGeometry_X0_byteAt
set_option maxRecDepth 20000 in
theorem ggX8_takeGeometry_X8_isSigned : GoodIn wsX8_takeGeometry wsX8_isSigned := goodIn_r _ [19, 1, 9, 10, 11, 12, 13, 14, 24, 25, 26, 27, 28, 29, 30, 31, 32, 33] (by decide +kernel) (by decide +kernel)
set_option maxRecDepth 20000 in
theorem gX8_takeGeometry_X8_isSigned : GoodIn wsX8_takeGeometry (wsV RX8 15 RX8 yX8_isSigned wsX8_isSigned) := goodIn_app (goodIn_of _ (by decide +kernel)) ggX8_takeGeometry_X8_isSigned
set_option maxRecDepth 20000 in
theorem ggX8_takeGeometry_X8_isCluster : GoodIn wsX8_takeGeometry wsX8_isCluster := goodIn_r _ [23, 4, 24, 25, 26, 27, 28, 29, 30, 31, 32] (by decide +kernel) (by decide +kernel)
set_option maxRecDepth 20000 in
theorem gX8_takeGeometry_X8_isCluster : GoodIn wsX8_takeGeometry (wsV RX8 64 RX8 yX8_isCluster wsX8_isCluster) := goodIn_app (goodIn_of _ (by decide +kernel)) ggX8_takeGeometry_X8_isCluster
theorem dX8_takeGeometry_0 : decode cX8_takeGeometry 0 = .ok (.aload_n 0, 1) := by decide +kernel
theorem dX8_takeGeometry_1 : decode cX8_takeGeometry 1 = .ok (.getfield 9, 3) := by decide +kernel
theorem dX8_takeGeometry_4 : decode cX8_takeGeometry 4 = .ok (.iload_n 1, 1) := by decide +kernel
theorem dX8_takeGeometry_5 : decode cX8_takeGeometry 5 = .ok (.iconst 1, 1) := by decide +kernel
theorem dX8_takeGeometry_6 : decode cX8_takeGeometry 6 = .ok (.iadd, 1) := by decide +kernel
theorem dX8_takeGeometry_7 : decode cX8_takeGeometry 7 = .ok (.invokevirtual 31, 3) := by decide +kernel
theorem dX8_takeGeometry_10 : decode cX8_takeGeometry 10 = .ok (.istore_n 3, 1) := by decide +kernel
theorem dX8_takeGeometry_11 : decode cX8_takeGeometry 11 = .ok (.aload_n 0, 1) := by decide +kernel
theorem dX8_takeGeometry_12 : decode cX8_takeGeometry 12 = .ok (.getfield 9, 3) := by decide +kernel
theorem dX8_takeGeometry_15 : decode cX8_takeGeometry 15 = .ok (.iload_n 1, 1) := by decide +kernel
theorem dX8_takeGeometry_16 : decode cX8_takeGeometry 16 = .ok (.iconst 2, 1) := by decide +kernel
theorem dX8_takeGeometry_17 : decode cX8_takeGeometry 17 = .ok (.iadd, 1) := by decide +kernel
theorem dX8_takeGeometry_18 : decode cX8_takeGeometry 18 = .ok (.invokevirtual 31, 3) := by decide +kernel
theorem dX8_takeGeometry_21 : decode cX8_takeGeometry 21 = .ok (.istore 4, 2) := by decide +kernel
theorem dX8_takeGeometry_23 : decode cX8_takeGeometry 23 = .ok (.aload_n 0, 1) := by decide +kernel
theorem dX8_takeGeometry_24 : decode cX8_takeGeometry 24 = .ok (.aload_n 0, 1) := by decide +kernel
theorem dX8_takeGeometry_25 : decode cX8_takeGeometry 25 = .ok (.getfield 9, 3) := by decide +kernel
theorem dX8_takeGeometry_28 : decode cX8_takeGeometry 28 = .ok (.iload_n 1, 1) := by decide +kernel
theorem dX8_takeGeometry_29 : decode cX8_takeGeometry 29 = .ok (.iconst 3, 1) := by decide +kernel
theorem dX8_takeGeometry_30 : decode cX8_takeGeometry 30 = .ok (.iadd, 1) := by decide +kernel
theorem dX8_takeGeometry_31 : decode cX8_takeGeometry 31 = .ok (.invokevirtual 31, 3) := by decide +kernel
theorem dX8_takeGeometry_34 : decode cX8_takeGeometry 34 = .ok (.putfield 46, 3) := by decide +kernel
theorem dX8_takeGeometry_37 : decode cX8_takeGeometry 37 = .ok (.aload_n 0, 1) := by decide +kernel
theorem dX8_takeGeometry_38 : decode cX8_takeGeometry 38 = .ok (.getfield 9, 3) := by decide +kernel
theorem dX8_takeGeometry_41 : decode cX8_takeGeometry 41 = .ok (.iload_n 1, 1) := by decide +kernel
theorem dX8_takeGeometry_42 : decode cX8_takeGeometry 42 = .ok (.iconst 4, 1) := by decide +kernel
theorem dX8_takeGeometry_43 : decode cX8_takeGeometry 43 = .ok (.iadd, 1) := by decide +kernel
theorem dX8_takeGeometry_44 : decode cX8_takeGeometry 44 = .ok (.invokevirtual 31, 3) := by decide +kernel
theorem dX8_takeGeometry_47 : decode cX8_takeGeometry 47 = .ok (.istore 5, 2) := by decide +kernel
theorem dX8_takeGeometry_49 : decode cX8_takeGeometry 49 = .ok (.aload_n 0, 1) := by decide +kernel
theorem dX8_takeGeometry_50 : decode cX8_takeGeometry 50 = .ok (.aload_n 0, 1) := by decide +kernel
theorem dX8_takeGeometry_51 : decode cX8_takeGeometry 51 = .ok (.getfield 9, 3) := by decide +kernel
theorem dX8_takeGeometry_54 : decode cX8_takeGeometry 54 = .ok (.iload_n 1, 1) := by decide +kernel
theorem dX8_takeGeometry_55 : decode cX8_takeGeometry 55 = .ok (.iconst 5, 1) := by decide +kernel
theorem dX8_takeGeometry_56 : decode cX8_takeGeometry 56 = .ok (.iadd, 1) := by decide +kernel
theorem dX8_takeGeometry_57 : decode cX8_takeGeometry 57 = .ok (.invokevirtual 31, 3) := by decide +kernel
theorem dX8_takeGeometry_60 : decode cX8_takeGeometry 60 = .ok (.putfield 49, 3) := by decide +kernel
theorem dX8_takeGeometry_63 : decode cX8_takeGeometry 63 = .ok (.aload_n 0, 1) := by decide +kernel
theorem dX8_takeGeometry_64 : decode cX8_takeGeometry 64 = .ok (.getfield 9, 3) := by decide +kernel
theorem dX8_takeGeometry_67 : decode cX8_takeGeometry 67 = .ok (.iload_n 1, 1) := by decide +kernel
theorem dX8_takeGeometry_68 : decode cX8_takeGeometry 68 = .ok (.invokevirtual 31, 3) := by decide +kernel
theorem dX8_takeGeometry_71 : decode cX8_takeGeometry 71 = .ok (.sipush 235, 3) := by decide +kernel
theorem dX8_takeGeometry_74 : decode cX8_takeGeometry 74 = .ok (.if_icmp .ne 11, 3) := by decide +kernel
theorem dX8_takeGeometry_77 : decode cX8_takeGeometry 77 = .ok (.aload_n 0, 1) := by decide +kernel
theorem dX8_takeGeometry_78 : decode cX8_takeGeometry 78 = .ok (.iload_n 1, 1) := by decide +kernel
theorem dX8_takeGeometry_79 : decode cX8_takeGeometry 79 = .ok (.invokevirtual 15, 3) := by decide +kernel
theorem dX8_takeGeometry_82 : decode cX8_takeGeometry 82 = .ok (.ifCond .ne 5, 3) := by decide +kernel
theorem dX8_takeGeometry_85 : decode cX8_takeGeometry 85 = .ok (.iconst 0, 1) := by decide +kernel
theorem dX8_takeGeometry_86 : decode cX8_takeGeometry 86 = .ok (.ireturn, 1) := by decide +kernel
theorem dX8_takeGeometry_87 : decode cX8_takeGeometry 87 = .ok (.iload_n 3, 1) := by decide +kernel
theorem dX8_takeGeometry_88 : decode cX8_takeGeometry 88 = .ok (.iconst 1, 1) := by decide +kernel
theorem dX8_takeGeometry_89 : decode cX8_takeGeometry 89 = .ok (.if_icmp .eq 15, 3) := by decide +kernel
theorem dX8_takeGeometry_92 : decode cX8_takeGeometry 92 = .ok (.iload_n 3, 1) := by decide +kernel
theorem dX8_takeGeometry_93 : decode cX8_takeGeometry 93 = .ok (.iconst 2, 1) := by decide +kernel
theorem dX8_takeGeometry_94 : decode cX8_takeGeometry 94 = .ok (.if_icmp .eq 10, 3) := by decide +kernel
theorem dX8_takeGeometry_97 : decode cX8_takeGeometry 97 = .ok (.iload_n 3, 1) := by decide +kernel
theorem dX8_takeGeometry_98 : decode cX8_takeGeometry 98 = .ok (.iconst 4, 1) := by decide +kernel
theorem dX8_takeGeometry_99 : decode cX8_takeGeometry 99 = .ok (.if_icmp .eq 5, 3) := by decide +kernel
theorem dX8_takeGeometry_102 : decode cX8_takeGeometry 102 = .ok (.iconst 0, 1) := by decide +kernel
theorem dX8_takeGeometry_103 : decode cX8_takeGeometry 103 = .ok (.ireturn, 1) := by decide +kernel
theorem dX8_takeGeometry_104 : decode cX8_takeGeometry 104 = .ok (.iload 4, 2) := by decide +kernel
theorem dX8_takeGeometry_106 : decode cX8_takeGeometry 106 = .ok (.iconst 1, 1) := by decide +kernel
theorem dX8_takeGeometry_107 : decode cX8_takeGeometry 107 = .ok (.if_icmp .lt 25, 3) := by decide +kernel
theorem dX8_takeGeometry_110 : decode cX8_takeGeometry 110 = .ok (.aload_n 0, 1) := by decide +kernel
theorem dX8_takeGeometry_111 : decode cX8_takeGeometry 111 = .ok (.getfield 46, 3) := by decide +kernel
theorem dX8_takeGeometry_114 : decode cX8_takeGeometry 114 = .ok (.iconst 1, 1) := by decide +kernel
theorem dX8_takeGeometry_115 : decode cX8_takeGeometry 115 = .ok (.if_icmp .lt 17, 3) := by decide +kernel
theorem dX8_takeGeometry_118 : decode cX8_takeGeometry 118 = .ok (.aload_n 0, 1) := by decide +kernel
theorem dX8_takeGeometry_119 : decode cX8_takeGeometry 119 = .ok (.getfield 46, 3) := by decide +kernel
theorem dX8_takeGeometry_122 : decode cX8_takeGeometry 122 = .ok (.iconst 2, 1) := by decide +kernel
theorem dX8_takeGeometry_123 : decode cX8_takeGeometry 123 = .ok (.if_icmp .gt 9, 3) := by decide +kernel
theorem dX8_takeGeometry_126 : decode cX8_takeGeometry 126 = .ok (.iload 5, 2) := by decide +kernel
theorem dX8_takeGeometry_128 : decode cX8_takeGeometry 128 = .ok (.iconst 1, 1) := by decide +kernel
theorem dX8_takeGeometry_129 : decode cX8_takeGeometry 129 = .ok (.if_icmp .ge 5, 3) := by decide +kernel
theorem dX8_takeGeometry_132 : decode cX8_takeGeometry 132 = .ok (.iconst 0, 1) := by decide +kernel
theorem dX8_takeGeometry_133 : decode cX8_takeGeometry 133 = .ok (.ireturn, 1) := by decide +kernel
theorem dX8_takeGeometry_134 : decode cX8_takeGeometry 134 = .ok (.iload 4, 2) := by decide +kernel
theorem dX8_takeGeometry_136 : decode cX8_takeGeometry 136 = .ok (.aload_n 0, 1) := by decide +kernel
theorem dX8_takeGeometry_137 : decode cX8_takeGeometry 137 = .ok (.getfield 46, 3) := by decide +kernel
theorem dX8_takeGeometry_140 : decode cX8_takeGeometry 140 = .ok (.iload 5, 2) := by decide +kernel
theorem dX8_takeGeometry_142 : decode cX8_takeGeometry 142 = .ok (.imul, 1) := by decide +kernel
theorem dX8_takeGeometry_143 : decode cX8_takeGeometry 143 = .ok (.iadd, 1) := by decide +kernel
theorem dX8_takeGeometry_144 : decode cX8_takeGeometry 144 = .ok (.istore 6, 2) := by decide +kernel
theorem dX8_takeGeometry_146 : decode cX8_takeGeometry 146 = .ok (.aload_n 0, 1) := by decide +kernel
theorem dX8_takeGeometry_147 : decode cX8_takeGeometry 147 = .ok (.iload_n 2, 1) := by decide +kernel
theorem dX8_takeGeometry_148 : decode cX8_takeGeometry 148 = .ok (.iload 6, 2) := by decide +kernel
theorem dX8_takeGeometry_150 : decode cX8_takeGeometry 150 = .ok (.isub, 1) := by decide +kernel
theorem dX8_takeGeometry_151 : decode cX8_takeGeometry 151 = .ok (.iload_n 3, 1) := by decide +kernel
theorem dX8_takeGeometry_152 : decode cX8_takeGeometry 152 = .ok (.idiv, 1) := by decide +kernel
theorem dX8_takeGeometry_153 : decode cX8_takeGeometry 153 = .ok (.putfield 40, 3) := by decide +kernel
theorem dX8_takeGeometry_156 : decode cX8_takeGeometry 156 = .ok (.aload_n 0, 1) := by decide +kernel
theorem dX8_takeGeometry_157 : decode cX8_takeGeometry 157 = .ok (.iload_n 3, 1) := by decide +kernel
theorem dX8_takeGeometry_158 : decode cX8_takeGeometry 158 = .ok (.bipush 32, 2) := by decide +kernel
theorem dX8_takeGeometry_160 : decode cX8_takeGeometry 160 = .ok (.imul, 1) := by decide +kernel
theorem dX8_takeGeometry_161 : decode cX8_takeGeometry 161 = .ok (.putfield 52, 3) := by decide +kernel
theorem dX8_takeGeometry_164 : decode cX8_takeGeometry 164 = .ok (.aload_n 0, 1) := by decide +kernel
theorem dX8_takeGeometry_165 : decode cX8_takeGeometry 165 = .ok (.iload 5, 2) := by decide +kernel
theorem dX8_takeGeometry_167 : decode cX8_takeGeometry 167 = .ok (.bipush 32, 2) := by decide +kernel
theorem dX8_takeGeometry_169 : decode cX8_takeGeometry 169 = .ok (.imul, 1) := by decide +kernel
theorem dX8_takeGeometry_170 : decode cX8_takeGeometry 170 = .ok (.putfield 55, 3) := by decide +kernel
theorem dX8_takeGeometry_173 : decode cX8_takeGeometry 173 = .ok (.aload_n 0, 1) := by decide +kernel
theorem dX8_takeGeometry_174 : decode cX8_takeGeometry 174 = .ok (.iload_n 1, 1) := by decide +kernel
theorem dX8_takeGeometry_175 : decode cX8_takeGeometry 175 = .ok (.iload 4, 2) := by decide +kernel
theorem dX8_takeGeometry_177 : decode cX8_takeGeometry 177 = .ok (.bipush 32, 2) := by decide +kernel
theorem dX8_takeGeometry_179 : decode cX8_takeGeometry 179 = .ok (.imul, 1) := by decide +kernel
theorem dX8_takeGeometry_180 : decode cX8_takeGeometry 180 = .ok (.iadd, 1) := by decide +kernel
theorem dX8_takeGeometry_181 : decode cX8_takeGeometry 181 = .ok (.putfield 58, 3) := by decide +kernel
theorem dX8_takeGeometry_184 : decode cX8_takeGeometry 184 = .ok (.aload_n 0, 1) := by decide +kernel
theorem dX8_takeGeometry_185 : decode cX8_takeGeometry 185 = .ok (.iload_n 1, 1) := by decide +kernel
theorem dX8_takeGeometry_186 : decode cX8_takeGeometry 186 = .ok (.iload 6, 2) := by decide +kernel
theorem dX8_takeGeometry_188 : decode cX8_takeGeometry 188 = .ok (.bipush 32, 2) := by decide +kernel
theorem dX8_takeGeometry_190 : decode cX8_takeGeometry 190 = .ok (.imul, 1) := by decide +kernel
theorem dX8_takeGeometry_191 : decode cX8_takeGeometry 191 = .ok (.iadd, 1) := by decide +kernel
theorem dX8_takeGeometry_192 : decode cX8_takeGeometry 192 = .ok (.putfield 61, 3) := by decide +kernel
theorem dX8_takeGeometry_195 : decode cX8_takeGeometry 195 = .ok (.aload_n 0, 1) := by decide +kernel
theorem dX8_takeGeometry_196 : decode cX8_takeGeometry 196 = .ok (.getfield 40, 3) := by decide +kernel
theorem dX8_takeGeometry_199 : decode cX8_takeGeometry 199 = .ok (.iconst 1, 1) := by decide +kernel
theorem dX8_takeGeometry_200 : decode cX8_takeGeometry 200 = .ok (.if_icmp .lt 33, 3) := by decide +kernel
theorem dX8_takeGeometry_203 : decode cX8_takeGeometry 203 = .ok (.aload_n 0, 1) := by decide +kernel
theorem dX8_takeGeometry_204 : decode cX8_takeGeometry 204 = .ok (.getfield 55, 3) := by decide +kernel
theorem dX8_takeGeometry_207 : decode cX8_takeGeometry 207 = .ok (.iconst 2, 1) := by decide +kernel
theorem dX8_takeGeometry_208 : decode cX8_takeGeometry 208 = .ok (.aload_n 0, 1) := by decide +kernel
theorem dX8_takeGeometry_209 : decode cX8_takeGeometry 209 = .ok (.getfield 40, 3) := by decide +kernel
theorem dX8_takeGeometry_212 : decode cX8_takeGeometry 212 = .ok (.iconst 2, 1) := by decide +kernel
theorem dX8_takeGeometry_213 : decode cX8_takeGeometry 213 = .ok (.iadd, 1) := by decide +kernel
theorem dX8_takeGeometry_214 : decode cX8_takeGeometry 214 = .ok (.imul, 1) := by decide +kernel
theorem dX8_takeGeometry_215 : decode cX8_takeGeometry 215 = .ok (.if_icmp .lt 18, 3) := by decide +kernel
theorem dX8_takeGeometry_218 : decode cX8_takeGeometry 218 = .ok (.aload_n 0, 1) := by decide +kernel
theorem dX8_takeGeometry_219 : decode cX8_takeGeometry 219 = .ok (.aload_n 0, 1) := by decide +kernel
theorem dX8_takeGeometry_220 : decode cX8_takeGeometry 220 = .ok (.getfield 49, 3) := by decide +kernel
theorem dX8_takeGeometry_223 : decode cX8_takeGeometry 223 = .ok (.invokevirtual 64, 3) := by decide +kernel
theorem dX8_takeGeometry_226 : decode cX8_takeGeometry 226 = .ok (.ifCond .eq 7, 3) := by decide +kernel
theorem dX8_takeGeometry_229 : decode cX8_takeGeometry 229 = .ok (.iconst 1, 1) := by decide +kernel
theorem dX8_takeGeometry_230 : decode cX8_takeGeometry 230 = .ok (.goto 4, 3) := by decide +kernel
theorem dX8_takeGeometry_233 : decode cX8_takeGeometry 233 = .ok (.iconst 0, 1) := by decide +kernel
theorem dX8_takeGeometry_234 : decode cX8_takeGeometry 234 = .ok (.ireturn, 1) := by decide +kernel
theorem dX8_isCluster_0 : decode cX8_isCluster 0 = .ok (.iload_n 1, 1) := by decide +kernel
theorem dX8_isCluster_1 : decode cX8_isCluster 1 = .ok (.iconst 2, 1) := by decide +kernel
theorem dX8_isCluster_2 : decode cX8_isCluster 2 = .ok (.if_icmp .lt 17, 3) := by decide +kernel
theorem dX8_isCluster_5 : decode cX8_isCluster 5 = .ok (.iload_n 1, 1) := by decide +kernel
theorem dX8_isCluster_6 : decode cX8_isCluster 6 = .ok (.aload_n 0, 1) := by decide +kernel
theorem dX8_isCluster_7 : decode cX8_isCluster 7 = .ok (.getfield 40, 3) := by decide +kernel
theorem dX8_isCluster_10 : decode cX8_isCluster 10 = .ok (.iconst 1, 1) := by decide +kernel
theorem dX8_isCluster_11 : decode cX8_isCluster 11 = .ok (.iadd, 1) := by decide +kernel
theorem dX8_isCluster_12 : decode cX8_isCluster 12 = .ok (.if_icmp .gt 7, 3) := by decide +kernel
theorem dX8_isCluster_15 : decode cX8_isCluster 15 = .ok (.iconst 1, 1) := by decide +kernel
theorem dX8_isCluster_16 : decode cX8_isCluster 16 = .ok (.goto 4, 3) := by decide +kernel
theorem dX8_isCluster_19 : decode cX8_isCluster 19 = .ok (.iconst 0, 1) := by decide +kernel
theorem dX8_isCluster_20 : decode cX8_isCluster 20 = .ok (.ireturn, 1) := by decide +kernel
theorem dX8_isEnd_0 : decode cX8_isEnd 0 = .ok (.iload_n 1, 1) := by decide +kernel
theorem dX8_isEnd_1 : decode cX8_isEnd 1 = .ok (.sipush 4088, 3) := by decide +kernel
theorem dX8_isEnd_4 : decode cX8_isEnd 4 = .ok (.if_icmp .lt 7, 3) := by decide +kernel
theorem dX8_isEnd_7 : decode cX8_isEnd 7 = .ok (.iconst 1, 1) := by decide +kernel
theorem dX8_isEnd_8 : decode cX8_isEnd 8 = .ok (.goto 4, 3) := by decide +kernel
theorem dX8_isEnd_11 : decode cX8_isEnd 11 = .ok (.iconst 0, 1) := by decide +kernel
theorem dX8_isEnd_12 : decode cX8_isEnd 12 = .ok (.ireturn, 1) := by decide +kernel
set_option maxRecDepth 20000 in
theorem ggX8_behind_X0_wordAt : GoodIn wsX8_behind wsX0_wordAt := goodIn_r _ [9, 10, 30] (by decide +kernel) (by decide +kernel)
set_option maxRecDepth 20000 in
theorem gX8_behind_X0_wordAt : GoodIn wsX8_behind (wsV RX8 67 RX0 yX0_wordAt wsX0_wordAt) := goodIn_app (goodIn_of _ (by decide +kernel)) ggX8_behind_X0_wordAt
set_option maxRecDepth 20000 in
theorem ggX8_behind_X8_isCluster : GoodIn wsX8_behind wsX8_isCluster := goodIn_r _ [15, 16, 21, 22, 23, 24, 25, 26, 27, 28, 29] (by decide +kernel) (by decide +kernel)
set_option maxRecDepth 20000 in
theorem gX8_behind_X8_isCluster : GoodIn wsX8_behind (wsV RX8 64 RX8 yX8_isCluster wsX8_isCluster) := goodIn_app (goodIn_of _ (by decide +kernel)) ggX8_behind_X8_isCluster
set_option maxRecDepth 20000 in
theorem ggX8_behind_X8_isEnd : GoodIn wsX8_behind wsX8_isEnd := goodIn_r _ [20] (by decide +kernel) (by decide +kernel)
set_option maxRecDepth 20000 in
theorem gX8_behind_X8_isEnd : GoodIn wsX8_behind (wsV RX8 70 RX8 yX8_isEnd wsX8_isEnd) := goodIn_app (goodIn_of _ (by decide +kernel)) ggX8_behind_X8_isEnd
theorem dX8_behind_0 : decode cX8_behind 0 = .ok (.aload_n 0, 1) := by decide +kernel
theorem dX8_behind_1 : decode cX8_behind 1 = .ok (.getfield 58, 3) := by decide +kernel
theorem dX8_behind_4 : decode cX8_behind 4 = .ok (.iconst 2, 1) := by decide +kernel
theorem dX8_behind_5 : decode cX8_behind 5 = .ok (.iload_n 1, 1) := by decide +kernel
theorem dX8_behind_6 : decode cX8_behind 6 = .ok (.imul, 1) := by decide +kernel
theorem dX8_behind_7 : decode cX8_behind 7 = .ok (.iadd, 1) := by decide +kernel
theorem dX8_behind_8 : decode cX8_behind 8 = .ok (.istore_n 2, 1) := by decide +kernel
theorem dX8_behind_9 : decode cX8_behind 9 = .ok (.aload_n 0, 1) := by decide +kernel
theorem dX8_behind_10 : decode cX8_behind 10 = .ok (.getfield 9, 3) := by decide +kernel
theorem dX8_behind_13 : decode cX8_behind 13 = .ok (.iload_n 2, 1) := by decide +kernel
theorem dX8_behind_14 : decode cX8_behind 14 = .ok (.invokevirtual 67, 3) := by decide +kernel
theorem dX8_behind_17 : decode cX8_behind 17 = .ok (.sipush 4095, 3) := by decide +kernel
theorem dX8_behind_20 : decode cX8_behind 20 = .ok (.iand, 1) := by decide +kernel
theorem dX8_behind_21 : decode cX8_behind 21 = .ok (.istore_n 3, 1) := by decide +kernel
theorem dX8_behind_22 : decode cX8_behind 22 = .ok (.aload_n 0, 1) := by decide +kernel
theorem dX8_behind_23 : decode cX8_behind 23 = .ok (.iload_n 3, 1) := by decide +kernel
theorem dX8_behind_24 : decode cX8_behind 24 = .ok (.invokevirtual 64, 3) := by decide +kernel
theorem dX8_behind_27 : decode cX8_behind 27 = .ok (.ifCond .ne 19, 3) := by decide +kernel
theorem dX8_behind_30 : decode cX8_behind 30 = .ok (.aload_n 0, 1) := by decide +kernel
theorem dX8_behind_31 : decode cX8_behind 31 = .ok (.iload_n 3, 1) := by decide +kernel
theorem dX8_behind_32 : decode cX8_behind 32 = .ok (.invokevirtual 70, 3) := by decide +kernel
theorem dX8_behind_35 : decode cX8_behind 35 = .ok (.ifCond .ne 11, 3) := by decide +kernel
theorem dX8_behind_38 : decode cX8_behind 38 = .ok (.aload_n 0, 1) := by decide +kernel
theorem dX8_behind_39 : decode cX8_behind 39 = .ok (.getfield 46, 3) := by decide +kernel
theorem dX8_behind_42 : decode cX8_behind 42 = .ok (.iconst 2, 1) := by decide +kernel
theorem dX8_behind_43 : decode cX8_behind 43 = .ok (.if_icmp .ge 5, 3) := by decide +kernel
theorem dX8_behind_46 : decode cX8_behind 46 = .ok (.iload_n 3, 1) := by decide +kernel
theorem dX8_behind_47 : decode cX8_behind 47 = .ok (.ireturn, 1) := by decide +kernel
theorem dX8_behind_48 : decode cX8_behind 48 = .ok (.aload_n 0, 1) := by decide +kernel
theorem dX8_behind_49 : decode cX8_behind 49 = .ok (.getfield 9, 3) := by decide +kernel
theorem dX8_behind_52 : decode cX8_behind 52 = .ok (.iload_n 2, 1) := by decide +kernel
theorem dX8_behind_53 : decode cX8_behind 53 = .ok (.aload_n 0, 1) := by decide +kernel
theorem dX8_behind_54 : decode cX8_behind 54 = .ok (.getfield 55, 3) := by decide +kernel
theorem dX8_behind_57 : decode cX8_behind 57 = .ok (.iadd, 1) := by decide +kernel
theorem dX8_behind_58 : decode cX8_behind 58 = .ok (.invokevirtual 67, 3) := by decide +kernel
theorem dX8_behind_61 : decode cX8_behind 61 = .ok (.sipush 4095, 3) := by decide +kernel
theorem dX8_behind_64 : decode cX8_behind 64 = .ok (.iand, 1) := by decide +kernel
theorem dX8_behind_65 : decode cX8_behind 65 = .ok (.ireturn, 1) := by decide +kernel
theorem dX8_placeOfCluster_0 : decode cX8_placeOfCluster 0 = .ok (.aload_n 0, 1) := by decide +kernel
theorem dX8_placeOfCluster_1 : decode cX8_placeOfCluster 1 = .ok (.getfield 61, 3) := by decide +kernel
theorem dX8_placeOfCluster_4 : decode cX8_placeOfCluster 4 = .ok (.iload_n 1, 1) := by decide +kernel
theorem dX8_placeOfCluster_5 : decode cX8_placeOfCluster 5 = .ok (.iconst 2, 1) := by decide +kernel
theorem dX8_placeOfCluster_6 : decode cX8_placeOfCluster 6 = .ok (.isub, 1) := by decide +kernel
theorem dX8_placeOfCluster_7 : decode cX8_placeOfCluster 7 = .ok (.aload_n 0, 1) := by decide +kernel
theorem dX8_placeOfCluster_8 : decode cX8_placeOfCluster 8 = .ok (.getfield 52, 3) := by decide +kernel
theorem dX8_placeOfCluster_11 : decode cX8_placeOfCluster 11 = .ok (.imul, 1) := by decide +kernel
theorem dX8_placeOfCluster_12 : decode cX8_placeOfCluster 12 = .ok (.iadd, 1) := by decide +kernel
theorem dX8_placeOfCluster_13 : decode cX8_placeOfCluster 13 = .ok (.ireturn, 1) := by decide +kernel
set_option maxRecDepth 20000 in
theorem ggX8_isDirectory_X0_byteAt : GoodIn wsX8_isDirectory wsX0_byteAt := goodIn_r _ [6, 7, 17] (by decide +kernel) (by decide +kernel)
set_option maxRecDepth 20000 in
theorem gX8_isDirectory_X0_byteAt : GoodIn wsX8_isDirectory (wsV RX8 31 RX0 yX0_byteAt wsX0_byteAt) := goodIn_app (goodIn_of _ (by decide +kernel)) ggX8_isDirectory_X0_byteAt
theorem dX8_isDirectory_0 : decode cX8_isDirectory 0 = .ok (.aload_n 0, 1) := by decide +kernel
theorem dX8_isDirectory_1 : decode cX8_isDirectory 1 = .ok (.getfield 9, 3) := by decide +kernel
theorem dX8_isDirectory_4 : decode cX8_isDirectory 4 = .ok (.iload_n 1, 1) := by decide +kernel
theorem dX8_isDirectory_5 : decode cX8_isDirectory 5 = .ok (.iconst 4, 1) := by decide +kernel
theorem dX8_isDirectory_6 : decode cX8_isDirectory 6 = .ok (.iadd, 1) := by decide +kernel
theorem dX8_isDirectory_7 : decode cX8_isDirectory 7 = .ok (.invokevirtual 31, 3) := by decide +kernel
theorem dX8_isDirectory_10 : decode cX8_isDirectory 10 = .ok (.bipush 16, 2) := by decide +kernel
theorem dX8_isDirectory_12 : decode cX8_isDirectory 12 = .ok (.iand, 1) := by decide +kernel
theorem dX8_isDirectory_13 : decode cX8_isDirectory 13 = .ok (.ifCond .eq 7, 3) := by decide +kernel
theorem dX8_isDirectory_16 : decode cX8_isDirectory 16 = .ok (.iconst 1, 1) := by decide +kernel
theorem dX8_isDirectory_17 : decode cX8_isDirectory 17 = .ok (.goto 4, 3) := by decide +kernel
theorem dX8_isDirectory_20 : decode cX8_isDirectory 20 = .ok (.iconst 0, 1) := by decide +kernel
theorem dX8_isDirectory_21 : decode cX8_isDirectory 21 = .ok (.ireturn, 1) := by decide +kernel
set_option maxRecDepth 20000 in
theorem ggX8_firstClusterOf_X0_byteAt : GoodIn wsX8_firstClusterOf wsX0_byteAt := goodIn_r _ [6, 7, 17] (by decide +kernel) (by decide +kernel)
set_option maxRecDepth 20000 in
theorem gX8_firstClusterOf_X0_byteAt : GoodIn wsX8_firstClusterOf (wsV RX8 31 RX0 yX0_byteAt wsX0_byteAt) := goodIn_app (goodIn_of _ (by decide +kernel)) ggX8_firstClusterOf_X0_byteAt
theorem dX8_firstClusterOf_0 : decode cX8_firstClusterOf 0 = .ok (.aload_n 0, 1) := by decide +kernel
theorem dX8_firstClusterOf_1 : decode cX8_firstClusterOf 1 = .ok (.getfield 9, 3) := by decide +kernel
theorem dX8_firstClusterOf_4 : decode cX8_firstClusterOf 4 = .ok (.iload_n 1, 1) := by decide +kernel
theorem dX8_firstClusterOf_5 : decode cX8_firstClusterOf 5 = .ok (.iconst 5, 1) := by decide +kernel
theorem dX8_firstClusterOf_6 : decode cX8_firstClusterOf 6 = .ok (.iadd, 1) := by decide +kernel
theorem dX8_firstClusterOf_7 : decode cX8_firstClusterOf 7 = .ok (.invokevirtual 31, 3) := by decide +kernel
theorem dX8_firstClusterOf_10 : decode cX8_firstClusterOf 10 = .ok (.ireturn, 1) := by decide +kernel
set_option maxRecDepth 20000 in
theorem ggX8_sizeOf_X0_wordAt : GoodIn wsX8_sizeOf wsX0_wordAt := goodIn_r _ [6, 7, 17] (by decide +kernel) (by decide +kernel)
set_option maxRecDepth 20000 in
theorem gX8_sizeOf_X0_wordAt : GoodIn wsX8_sizeOf (wsV RX8 67 RX0 yX0_wordAt wsX0_wordAt) := goodIn_app (goodIn_of _ (by decide +kernel)) ggX8_sizeOf_X0_wordAt
theorem dX8_sizeOf_0 : decode cX8_sizeOf 0 = .ok (.aload_n 0, 1) := by decide +kernel
theorem dX8_sizeOf_1 : decode cX8_sizeOf 1 = .ok (.getfield 9, 3) := by decide +kernel
theorem dX8_sizeOf_4 : decode cX8_sizeOf 4 = .ok (.iload_n 1, 1) := by decide +kernel
theorem dX8_sizeOf_5 : decode cX8_sizeOf 5 = .ok (.bipush 6, 2) := by decide +kernel
theorem dX8_sizeOf_7 : decode cX8_sizeOf 7 = .ok (.iadd, 1) := by decide +kernel
theorem dX8_sizeOf_8 : decode cX8_sizeOf 8 = .ok (.invokevirtual 67, 3) := by decide +kernel
theorem dX8_sizeOf_11 : decode cX8_sizeOf 11 = .ok (.ireturn, 1) := by decide +kernel
set_option maxRecDepth 20000 in
theorem ggX9_init_X0_init : GoodIn wsX9_init wsX0_init := goodIn_r _ [39, 40, 2, 3, 41, 42, 96] (by decide +kernel) (by decide +kernel)
set_option maxRecDepth 20000 in
theorem gX9_init_X0_init : GoodIn wsX9_init (wsX0_init) := ggX9_init_X0_init
set_option maxRecDepth 20000 in
theorem ggX9_init_X8_init : GoodIn wsX9_init wsX8_init := goodIn_r _ [45, 46, 2, 3, 47, 108, 109, 110, 111, 112, 113, 114, 115, 116] (by decide +kernel) (by decide +kernel)
set_option maxRecDepth 20000 in
theorem gX9_init_X8_init : GoodIn wsX9_init (wsX8_init) := ggX9_init_X8_init
set_option maxRecDepth 20000 in
theorem ggX9_init_X5_init : GoodIn wsX9_init wsX5_init := goodIn_r _ [50, 51, 2, 3, 33, 52, 117, 118] (by decide +kernel) (by decide +kernel)
set_option maxRecDepth 20000 in
theorem gX9_init_X5_init : GoodIn wsX9_init (wsX5_init) := ggX9_init_X5_init
set_option maxRecDepth 20000 in
theorem ggX9_init_X3_init : GoodIn wsX9_init wsX3_init := goodIn_r _ [55, 56, 2, 3, 57, 58, 59, 60, 61, 62, 63, 64, 65, 66, 67, 68, 69, 33, 70, 119, 120, 121, 122, 134, 135, 136, 137, 138] (by decide +kernel) (by decide +kernel)
set_option maxRecDepth 20000 in
theorem gX9_init_X3_init : GoodIn wsX9_init (wsX3_init) := ggX9_init_X3_init
set_option maxRecDepth 20000 in
theorem ggX9_init_X1_init : GoodIn wsX9_init wsX1_init := goodIn_r _ [73, 74, 2, 3, 75, 76, 77, 60, 61, 78, 65, 66, 67, 68, 69, 33, 70, 123, 124, 125, 126, 134, 135, 136, 137, 138] (by decide +kernel) (by decide +kernel)
set_option maxRecDepth 20000 in
theorem gX9_init_X1_init : GoodIn wsX9_init (wsX1_init) := ggX9_init_X1_init
set_option maxRecDepth 20000 in
theorem ggX9_init_X6_init : GoodIn wsX9_init wsX6_init := goodIn_r _ [81, 82, 2, 3, 33, 83, 84, 85, 86, 87, 88, 89, 90, 91, 92, 127, 128, 129, 130, 139, 140, 141] (by decide +kernel) (by decide +kernel)
set_option maxRecDepth 20000 in
theorem gX9_init_X6_init : GoodIn wsX9_init (wsX6_init) := ggX9_init_X6_init
set_option maxRecDepth 20000 in
theorem ggX9_init_X4_init : GoodIn wsX9_init wsX4_init := goodIn_r _ [94, 95, 2, 3] (by decide +kernel) (by decide +kernel)
set_option maxRecDepth 20000 in
theorem gX9_init_X4_init_n62 : GoodIn wsX9_init (wsX4_init) := ggX9_init_X4_init
theorem dX9_init_0 : decode cX9_init 0 = .ok (.aload_n 0, 1) := by decide +kernel
theorem dX9_init_1 : decode cX9_init 1 = .ok (.invokespecial 1, 3) := by decide +kernel
theorem dX9_init_4 : decode cX9_init 4 = .ok (.aload_n 0, 1) := by decide +kernel
theorem dX9_init_5 : decode cX9_init 5 = .ok (.new 7, 3) := by decide +kernel
theorem dX9_init_8 : decode cX9_init 8 = .ok (.dup, 1) := by decide +kernel
theorem dX9_init_9 : decode cX9_init 9 = .ok (.sipush 2048, 3) := by decide +kernel
theorem dX9_init_12 : decode cX9_init 12 = .ok (.invokespecial 11, 3) := by decide +kernel
theorem dX9_init_15 : decode cX9_init 15 = .ok (.putfield 14, 3) := by decide +kernel
theorem dX9_init_18 : decode cX9_init 18 = .ok (.aload_n 0, 1) := by decide +kernel
theorem dX9_init_19 : decode cX9_init 19 = .ok (.new 7, 3) := by decide +kernel
theorem dX9_init_22 : decode cX9_init 22 = .ok (.dup, 1) := by decide +kernel
theorem dX9_init_23 : decode cX9_init 23 = .ok (.sipush 1024, 3) := by decide +kernel
theorem dX9_init_26 : decode cX9_init 26 = .ok (.invokespecial 11, 3) := by decide +kernel
theorem dX9_init_29 : decode cX9_init 29 = .ok (.putfield 18, 3) := by decide +kernel
theorem dX9_init_32 : decode cX9_init 32 = .ok (.aload_n 0, 1) := by decide +kernel
theorem dX9_init_33 : decode cX9_init 33 = .ok (.new 21, 3) := by decide +kernel
theorem dX9_init_36 : decode cX9_init 36 = .ok (.dup, 1) := by decide +kernel
theorem dX9_init_37 : decode cX9_init 37 = .ok (.aload_n 0, 1) := by decide +kernel
theorem dX9_init_38 : decode cX9_init 38 = .ok (.getfield 14, 3) := by decide +kernel
theorem dX9_init_41 : decode cX9_init 41 = .ok (.invokespecial 23, 3) := by decide +kernel
theorem dX9_init_44 : decode cX9_init 44 = .ok (.putfield 26, 3) := by decide +kernel
theorem dX9_init_47 : decode cX9_init 47 = .ok (.aload_n 0, 1) := by decide +kernel
theorem dX9_init_48 : decode cX9_init 48 = .ok (.new 30, 3) := by decide +kernel
theorem dX9_init_51 : decode cX9_init 51 = .ok (.dup, 1) := by decide +kernel
theorem dX9_init_52 : decode cX9_init 52 = .ok (.invokespecial 32, 3) := by decide +kernel
theorem dX9_init_55 : decode cX9_init 55 = .ok (.putfield 33, 3) := by decide +kernel
theorem dX9_init_58 : decode cX9_init 58 = .ok (.aload_n 0, 1) := by decide +kernel
theorem dX9_init_59 : decode cX9_init 59 = .ok (.new 37, 3) := by decide +kernel
theorem dX9_init_62 : decode cX9_init 62 = .ok (.dup, 1) := by decide +kernel
theorem dX9_init_63 : decode cX9_init 63 = .ok (.aload_n 0, 1) := by decide +kernel
theorem dX9_init_64 : decode cX9_init 64 = .ok (.getfield 14, 3) := by decide +kernel
theorem dX9_init_67 : decode cX9_init 67 = .ok (.aload_n 0, 1) := by decide +kernel
theorem dX9_init_68 : decode cX9_init 68 = .ok (.getfield 26, 3) := by decide +kernel
theorem dX9_init_71 : decode cX9_init 71 = .ok (.invokespecial 39, 3) := by decide +kernel
theorem dX9_init_74 : decode cX9_init 74 = .ok (.putfield 42, 3) := by decide +kernel
theorem dX9_init_77 : decode cX9_init 77 = .ok (.aload_n 0, 1) := by decide +kernel
theorem dX9_init_78 : decode cX9_init 78 = .ok (.new 46, 3) := by decide +kernel
theorem dX9_init_81 : decode cX9_init 81 = .ok (.dup, 1) := by decide +kernel
theorem dX9_init_82 : decode cX9_init 82 = .ok (.aload_n 0, 1) := by decide +kernel
theorem dX9_init_83 : decode cX9_init 83 = .ok (.getfield 14, 3) := by decide +kernel
theorem dX9_init_86 : decode cX9_init 86 = .ok (.aload_n 0, 1) := by decide +kernel
theorem dX9_init_87 : decode cX9_init 87 = .ok (.getfield 26, 3) := by decide +kernel
theorem dX9_init_90 : decode cX9_init 90 = .ok (.invokespecial 48, 3) := by decide +kernel
theorem dX9_init_93 : decode cX9_init 93 = .ok (.putfield 49, 3) := by decide +kernel
theorem dX9_init_96 : decode cX9_init 96 = .ok (.aload_n 0, 1) := by decide +kernel
theorem dX9_init_97 : decode cX9_init 97 = .ok (.new 53, 3) := by decide +kernel
theorem dX9_init_100 : decode cX9_init 100 = .ok (.dup, 1) := by decide +kernel
theorem dX9_init_101 : decode cX9_init 101 = .ok (.invokespecial 55, 3) := by decide +kernel
theorem dX9_init_104 : decode cX9_init 104 = .ok (.putfield 56, 3) := by decide +kernel
theorem dX9_init_107 : decode cX9_init 107 = .ok (.aload_n 0, 1) := by decide +kernel
theorem dX9_init_108 : decode cX9_init 108 = .ok (.new 60, 3) := by decide +kernel
theorem dX9_init_111 : decode cX9_init 111 = .ok (.dup, 1) := by decide +kernel
theorem dX9_init_112 : decode cX9_init 112 = .ok (.invokespecial 62, 3) := by decide +kernel
theorem dX9_init_115 : decode cX9_init 115 = .ok (.putfield 63, 3) := by decide +kernel
theorem dX9_init_118 : decode cX9_init 118 = .ok (.aload_n 0, 1) := by decide +kernel
theorem dX9_init_119 : decode cX9_init 119 = .ok (.bipush 20, 2) := by decide +kernel
theorem dX9_init_121 : decode cX9_init 121 = .ok (.newarray .int, 2) := by decide +kernel
theorem dX9_init_123 : decode cX9_init 123 = .ok (.putfield 67, 3) := by decide +kernel
theorem dX9_init_126 : decode cX9_init 126 = .ok (.aload_n 0, 1) := by decide +kernel
theorem dX9_init_127 : decode cX9_init 127 = .ok (.iconst 0, 1) := by decide +kernel
theorem dX9_init_128 : decode cX9_init 128 = .ok (.putfield 71, 3) := by decide +kernel
theorem dX9_init_131 : decode cX9_init 131 = .ok (.aload_n 0, 1) := by decide +kernel
theorem dX9_init_132 : decode cX9_init 132 = .ok (.iconst (-1), 1) := by decide +kernel
theorem dX9_init_133 : decode cX9_init 133 = .ok (.putfield 75, 3) := by decide +kernel
theorem dX9_init_136 : decode cX9_init 136 = .ok (.return_, 1) := by decide +kernel
set_option maxRecDepth 20000 in
theorem ggX9_poke_X0_put : GoodIn wsX9_poke wsX0_put := goodIn_r _ [6, 7, 19] (by decide +kernel) (by decide +kernel)
set_option maxRecDepth 20000 in
theorem gX9_poke_X0_put : GoodIn wsX9_poke (wsV RX9 78 RX0 yX0_put wsX0_put) := goodIn_app (goodIn_of _ (by decide +kernel)) ggX9_poke_X0_put
theorem dX9_poke_0 : decode cX9_poke 0 = .ok (.aload_n 0, 1) := by decide +kernel
theorem dX9_poke_1 : decode cX9_poke 1 = .ok (.getfield 14, 3) := by decide +kernel
theorem dX9_poke_4 : decode cX9_poke 4 = .ok (.iload_n 1, 1) := by decide +kernel
theorem dX9_poke_5 : decode cX9_poke 5 = .ok (.lload_n 2, 1) := by decide +kernel
theorem dX9_poke_6 : decode cX9_poke 6 = .ok (.iload 4, 2) := by decide +kernel
theorem dX9_poke_8 : decode cX9_poke 8 = .ok (.invokevirtual 78, 3) := by decide +kernel
theorem dX9_poke_11 : decode cX9_poke 11 = .ok (.ireturn, 1) := by decide +kernel
set_option maxRecDepth 20000 in
theorem ggX9_peek_X0_byteAt : GoodIn wsX9_peek wsX0_byteAt := goodIn_r _ [6, 7, 19] (by decide +kernel) (by decide +kernel)
set_option maxRecDepth 20000 in
theorem gX9_peek_X0_byteAt : GoodIn wsX9_peek (wsV RX9 82 RX0 yX0_byteAt wsX0_byteAt) := goodIn_app (goodIn_of _ (by decide +kernel)) ggX9_peek_X0_byteAt
theorem dX9_peek_0 : decode cX9_peek 0 = .ok (.aload_n 0, 1) := by decide +kernel
theorem dX9_peek_1 : decode cX9_peek 1 = .ok (.getfield 14, 3) := by decide +kernel
theorem dX9_peek_4 : decode cX9_peek 4 = .ok (.iload_n 1, 1) := by decide +kernel
theorem dX9_peek_5 : decode cX9_peek 5 = .ok (.invokevirtual 82, 3) := by decide +kernel
theorem dX9_peek_8 : decode cX9_peek 8 = .ok (.ireturn, 1) := by decide +kernel
set_option maxRecDepth 20000 in
theorem ggX9_volume_X8_mount : GoodIn wsX9_volume wsX8_mount := goodIn_r _ [6, 7, 8, 9, 10, 11, 12, 5, 13, 14, 15, 16, 17, 18, 19, 20, 21, 22, 23, 24, 25, 26, 27, 28, 29, 30, 31, 32, 33, 34, 35, 36, 37, 38, 39, 40, 41, 42, 43, 44, 45, 57, 58, 59, 60, 61, 62, 63, 64, 65, 66] (by decide +kernel) (by decide +kernel)
set_option maxRecDepth 20000 in
theorem gX9_volume_X8_mount : GoodIn wsX9_volume (wsV RX9 86 RX8 yX8_mount wsX8_mount) := goodIn_app (goodIn_of _ (by decide +kernel)) ggX9_volume_X8_mount
theorem dX9_volume_0 : decode cX9_volume 0 = .ok (.aload_n 0, 1) := by decide +kernel
theorem dX9_volume_1 : decode cX9_volume 1 = .ok (.getfield 26, 3) := by decide +kernel
theorem dX9_volume_4 : decode cX9_volume 4 = .ok (.invokevirtual 86, 3) := by decide +kernel
theorem dX9_volume_7 : decode cX9_volume 7 = .ok (.ireturn, 1) := by decide +kernel
theorem dX9_type_0 : decode cX9_type 0 = .ok (.aload_n 0, 1) := by decide +kernel
theorem dX9_type_1 : decode cX9_type 1 = .ok (.getfield 71, 3) := by decide +kernel
theorem dX9_type_4 : decode cX9_type 4 = .ok (.bipush 20, 2) := by decide +kernel
theorem dX9_type_6 : decode cX9_type 6 = .ok (.if_icmp .ge 15, 3) := by decide +kernel
theorem dX9_type_9 : decode cX9_type 9 = .ok (.iload_n 1, 1) := by decide +kernel
theorem dX9_type_10 : decode cX9_type 10 = .ok (.bipush 32, 2) := by decide +kernel
theorem dX9_type_12 : decode cX9_type 12 = .ok (.if_icmp .lt 9, 3) := by decide +kernel
theorem dX9_type_15 : decode cX9_type 15 = .ok (.iload_n 1, 1) := by decide +kernel
theorem dX9_type_16 : decode cX9_type 16 = .ok (.bipush 126, 2) := by decide +kernel
theorem dX9_type_18 : decode cX9_type 18 = .ok (.if_icmp .le 5, 3) := by decide +kernel
theorem dX9_type_21 : decode cX9_type 21 = .ok (.iconst 0, 1) := by decide +kernel
theorem dX9_type_22 : decode cX9_type 22 = .ok (.ireturn, 1) := by decide +kernel
theorem dX9_type_23 : decode cX9_type 23 = .ok (.aload_n 0, 1) := by decide +kernel
theorem dX9_type_24 : decode cX9_type 24 = .ok (.getfield 67, 3) := by decide +kernel
theorem dX9_type_27 : decode cX9_type 27 = .ok (.aload_n 0, 1) := by decide +kernel
theorem dX9_type_28 : decode cX9_type 28 = .ok (.getfield 71, 3) := by decide +kernel
theorem dX9_type_31 : decode cX9_type 31 = .ok (.iload_n 1, 1) := by decide +kernel
theorem dX9_type_32 : decode cX9_type 32 = .ok (.iastore, 1) := by decide +kernel
theorem dX9_type_33 : decode cX9_type 33 = .ok (.aload_n 0, 1) := by decide +kernel
theorem dX9_type_34 : decode cX9_type 34 = .ok (.dup, 1) := by decide +kernel
theorem dX9_type_35 : decode cX9_type 35 = .ok (.getfield 71, 3) := by decide +kernel
theorem dX9_type_38 : decode cX9_type 38 = .ok (.iconst 1, 1) := by decide +kernel
theorem dX9_type_39 : decode cX9_type 39 = .ok (.iadd, 1) := by decide +kernel
theorem dX9_type_40 : decode cX9_type 40 = .ok (.putfield 71, 3) := by decide +kernel
theorem dX9_type_43 : decode cX9_type 43 = .ok (.iconst 1, 1) := by decide +kernel
theorem dX9_type_44 : decode cX9_type 44 = .ok (.ireturn, 1) := by decide +kernel
theorem dX9_scrap_0 : decode cX9_scrap 0 = .ok (.aload_n 0, 1) := by decide +kernel
theorem dX9_scrap_1 : decode cX9_scrap 1 = .ok (.getfield 71, 3) := by decide +kernel
theorem dX9_scrap_4 : decode cX9_scrap 4 = .ok (.istore_n 1, 1) := by decide +kernel
theorem dX9_scrap_5 : decode cX9_scrap 5 = .ok (.aload_n 0, 1) := by decide +kernel
theorem dX9_scrap_6 : decode cX9_scrap 6 = .ok (.iconst 0, 1) := by decide +kernel
theorem dX9_scrap_7 : decode cX9_scrap 7 = .ok (.putfield 71, 3) := by decide +kernel
theorem dX9_scrap_10 : decode cX9_scrap 10 = .ok (.iload_n 1, 1) := by decide +kernel
theorem dX9_scrap_11 : decode cX9_scrap 11 = .ok (.ireturn, 1) := by decide +kernel
set_option maxRecDepth 20000 in
theorem ggX9_size_X9_findTypedFile : GoodIn wsX9_size wsX9_findTypedFile := goodIn_r _ [6, 1, 7, 8, 9, 10, 11, 12, 13, 14, 15, 16, 17, 18, 19, 20, 21, 22, 23, 24, 25, 26, 27, 28, 29, 30, 31, 32, 33, 34, 35, 36, 37, 38, 39, 40, 41, 42, 43, 44, 45, 46, 47, 48, 49, 50, 51, 52, 53, 54, 55, 56, 57, 58, 59, 60, 61, 62, 63, 64, 65, 66, 67, 68, 69, 70, 71, 72, 73, 74, 75, 76, 77, 78, 79, 80, 81, 82, 83, 84, 85, 86, 87, 88, 89, 90, 91, 92, 93, 94, 95, 96, 97, 98, 99, 100, 101, 102, 103, 104, 105, 106, 107, 108, 109, 110, 111, 112, 113, 114, 115, 116, 117, 118, 119, 120, 121, 122, 123, 124, 125, 126, 127, 128, 129, 130, 131, 132, 133, 134, 135, 136, 137, 138, 139, 140, 141, 142, 143, 148, 149, 150, 151, 152, 153, 154, 155, 156, 157, 158, 159, 160, 161, 162, 163, 164, 165, 166, 167, 168, 169, 170, 171, 172, 173, 174, 175, 176, 177, 178, 179] (by decide +kernel) (by decide +kernel)
set_option maxRecDepth 20000 in
theorem gX9_size_X9_findTypedFile : GoodIn wsX9_size (wsV RX9 90 RX9 yX9_findTypedFile wsX9_findTypedFile) := goodIn_app (goodIn_of _ (by decide +kernel)) ggX9_size_X9_findTypedFile
set_option maxRecDepth 20000 in
theorem ggX9_size_X8_sizeOf : GoodIn wsX9_size wsX8_sizeOf := goodIn_r _ [147, 17, 110, 111, 112, 26, 113, 28, 159, 160, 161, 162, 163, 164, 165, 166, 167, 168] (by decide +kernel) (by decide +kernel)
set_option maxRecDepth 20000 in
theorem gX9_size_X8_sizeOf : GoodIn wsX9_size (wsV RX9 93 RX8 yX8_sizeOf wsX8_sizeOf) := goodIn_app (goodIn_of _ (by decide +kernel)) ggX9_size_X8_sizeOf
theorem dX9_size_0 : decode cX9_size 0 = .ok (.aload_n 0, 1) := by decide +kernel
theorem dX9_size_1 : decode cX9_size 1 = .ok (.invokevirtual 90, 3) := by decide +kernel
theorem dX9_size_4 : decode cX9_size 4 = .ok (.istore_n 1, 1) := by decide +kernel
theorem dX9_size_5 : decode cX9_size 5 = .ok (.iload_n 1, 1) := by decide +kernel
theorem dX9_size_6 : decode cX9_size 6 = .ok (.ifCond .ge 7, 3) := by decide +kernel
theorem dX9_size_9 : decode cX9_size 9 = .ok (.iload_n 1, 1) := by decide +kernel
theorem dX9_size_10 : decode cX9_size 10 = .ok (.goto 11, 3) := by decide +kernel
theorem dX9_size_13 : decode cX9_size 13 = .ok (.aload_n 0, 1) := by decide +kernel
theorem dX9_size_14 : decode cX9_size 14 = .ok (.getfield 26, 3) := by decide +kernel
theorem dX9_size_17 : decode cX9_size 17 = .ok (.iload_n 1, 1) := by decide +kernel
theorem dX9_size_18 : decode cX9_size 18 = .ok (.invokevirtual 93, 3) := by decide +kernel
theorem dX9_size_21 : decode cX9_size 21 = .ok (.ireturn, 1) := by decide +kernel
set_option maxRecDepth 20000 in
theorem ggX9_read_X9_findTypedFile : GoodIn wsX9_read wsX9_findTypedFile := goodIn_r _ [7, 8, 9, 10, 11, 1, 12, 13, 14, 15, 16, 17, 18, 19, 20, 21, 22, 23, 24, 25, 26, 27, 28, 29, 30, 31, 32, 33, 34, 35, 36, 37, 38, 39, 40, 41, 42, 43, 44, 45, 46, 47, 48, 49, 50, 51, 52, 53, 54, 55, 56, 57, 58, 59, 60, 61, 62, 63, 64, 65, 66, 67, 68, 69, 70, 71, 72, 73, 74, 75, 76, 77, 78, 79, 80, 81, 82, 83, 84, 85, 86, 87, 88, 89, 90, 91, 92, 93, 94, 95, 96, 97, 98, 99, 100, 101, 102, 103, 104, 105, 106, 107, 108, 109, 110, 111, 112, 113, 114, 115, 116, 117, 118, 119, 120, 121, 122, 123, 124, 125, 126, 127, 128, 129, 130, 131, 132, 133, 134, 135, 136, 137, 138, 139, 140, 141, 142, 143, 144, 159, 160, 161, 162, 163, 164, 165, 166, 167, 168, 169, 174, 175, 176, 177, 178, 179, 180, 181, 182, 183, 184, 185, 170, 171, 172, 173, 186, 187, 188, 189, 190] (by decide +kernel) (by decide +kernel)
set_option maxRecDepth 20000 in
theorem gX9_read_X9_findTypedFile : GoodIn wsX9_read (wsV RX9 90 RX9 yX9_findTypedFile wsX9_findTypedFile) := goodIn_app (goodIn_of _ (by decide +kernel)) ggX9_read_X9_findTypedFile
set_option maxRecDepth 20000 in
theorem ggX9_read_X3_open : GoodIn wsX9_read wsX3_open := goodIn_r _ [148, 76, 149, 150, 151, 152, 15, 153, 18, 111, 112, 113, 27, 114, 29, 88, 89, 90, 91, 24, 25, 26, 28, 92, 93, 94, 95, 96, 97, 98, 99, 100, 101, 102, 53, 54, 55, 19, 103, 104, 105, 106, 51, 48, 107, 108, 109, 110, 50, 46, 49, 52, 115, 116, 117, 118, 119, 154, 131, 132, 133, 134, 170, 171, 172, 173, 174, 175, 176, 177, 178, 179, 180, 181, 182, 183, 186, 187, 188, 189, 190] (by decide +kernel) (by decide +kernel)
set_option maxRecDepth 20000 in
theorem gX9_read_X3_open : GoodIn wsX9_read (wsV RX9 96 RX3 yX3_open wsX3_open) := goodIn_app (goodIn_of _ (by decide +kernel)) ggX9_read_X3_open
set_option maxRecDepth 20000 in
theorem ggX9_read_X2_byteAt : GoodIn wsX9_read wsX2_byteAt := goodIn_r _ [158, 129, 135, 136, 137, 95, 138, 99, 134, 97, 101, 139, 25, 26, 27, 28, 29, 186, 187, 188, 189, 190, 174, 175, 176, 177, 178, 179, 180, 181, 182, 183] (by decide +kernel) (by decide +kernel)
set_option maxRecDepth 20000 in
theorem gX9_read_X2_byteAt : GoodIn wsX9_read (wsV RX9 103 RX2 yX2_byteAt wsX2_byteAt) := goodIn_app (goodIn_of _ (by decide +kernel)) ggX9_read_X2_byteAt
theorem dX9_read_0 : decode cX9_read 0 = .ok (.aload_n 0, 1) := by decide +kernel
theorem dX9_read_1 : decode cX9_read 1 = .ok (.invokevirtual 90, 3) := by decide +kernel
theorem dX9_read_4 : decode cX9_read 4 = .ok (.istore_n 2, 1) := by decide +kernel
theorem dX9_read_5 : decode cX9_read 5 = .ok (.iload_n 2, 1) := by decide +kernel
theorem dX9_read_6 : decode cX9_read 6 = .ok (.ifCond .ge 5, 3) := by decide +kernel
theorem dX9_read_9 : decode cX9_read 9 = .ok (.iload_n 2, 1) := by decide +kernel
theorem dX9_read_10 : decode cX9_read 10 = .ok (.ireturn, 1) := by decide +kernel
theorem dX9_read_11 : decode cX9_read 11 = .ok (.aload_n 0, 1) := by decide +kernel
theorem dX9_read_12 : decode cX9_read 12 = .ok (.getfield 42, 3) := by decide +kernel
theorem dX9_read_15 : decode cX9_read 15 = .ok (.iload_n 2, 1) := by decide +kernel
theorem dX9_read_16 : decode cX9_read 16 = .ok (.invokevirtual 96, 3) := by decide +kernel
theorem dX9_read_19 : decode cX9_read 19 = .ok (.istore_n 3, 1) := by decide +kernel
theorem dX9_read_20 : decode cX9_read 20 = .ok (.iload_n 3, 1) := by decide +kernel
theorem dX9_read_21 : decode cX9_read 21 = .ok (.ifCond .ge 5, 3) := by decide +kernel
theorem dX9_read_24 : decode cX9_read 24 = .ok (.iload_n 3, 1) := by decide +kernel
theorem dX9_read_25 : decode cX9_read 25 = .ok (.ireturn, 1) := by decide +kernel
theorem dX9_read_26 : decode cX9_read 26 = .ok (.iload_n 1, 1) := by decide +kernel
theorem dX9_read_27 : decode cX9_read 27 = .ok (.ifCond .lt 22, 3) := by decide +kernel
theorem dX9_read_30 : decode cX9_read 30 = .ok (.iload_n 1, 1) := by decide +kernel
theorem dX9_read_31 : decode cX9_read 31 = .ok (.iload_n 3, 1) := by decide +kernel
theorem dX9_read_32 : decode cX9_read 32 = .ok (.if_icmp .ge 17, 3) := by decide +kernel
theorem dX9_read_35 : decode cX9_read 35 = .ok (.aload_n 0, 1) := by decide +kernel
theorem dX9_read_36 : decode cX9_read 36 = .ok (.getfield 42, 3) := by decide +kernel
theorem dX9_read_39 : decode cX9_read 39 = .ok (.getfield 99, 3) := by decide +kernel
theorem dX9_read_42 : decode cX9_read 42 = .ok (.iload_n 1, 1) := by decide +kernel
theorem dX9_read_43 : decode cX9_read 43 = .ok (.invokevirtual 103, 3) := by decide +kernel
theorem dX9_read_46 : decode cX9_read 46 = .ok (.goto 4, 3) := by decide +kernel
theorem dX9_read_49 : decode cX9_read 49 = .ok (.iconst (-1), 1) := by decide +kernel
theorem dX9_read_50 : decode cX9_read 50 = .ok (.ireturn, 1) := by decide +kernel
set_option maxRecDepth 20000 in
theorem ggX9_list_X8_mount : GoodIn wsX9_list wsX8_mount := goodIn_r _ [7, 8, 9, 10, 11, 12, 13, 6, 14, 15, 16, 17, 18, 19, 20, 21, 22, 23, 24, 25, 26, 27, 28, 29, 30, 31, 32, 33, 34, 35, 36, 37, 38, 39, 40, 41, 42, 43, 44, 45, 46, 161, 162, 163, 164, 165, 166, 167, 168, 169, 170] (by decide +kernel) (by decide +kernel)
set_option maxRecDepth 20000 in
theorem gX9_list_X8_mount : GoodIn wsX9_list (wsV RX9 86 RX8 yX8_mount wsX8_mount) := goodIn_app (goodIn_of _ (by decide +kernel)) ggX9_list_X8_mount
set_option maxRecDepth 20000 in
theorem ggX9_list_X9_findTypedDirectory : GoodIn wsX9_list wsX9_findTypedDirectory := goodIn_r _ [51, 52, 1, 53, 54, 55, 2, 56, 57, 58, 59, 60, 61, 62, 63, 64, 65, 66, 67, 68, 69, 70, 71, 72, 73, 74, 75, 76, 77, 78, 79, 80, 81, 82, 6, 83, 9, 15, 16, 17, 18, 19, 20, 84, 85, 86, 87, 88, 89, 90, 91, 92, 93, 94, 95, 96, 97, 98, 44, 45, 46, 10, 99, 100, 101, 102, 42, 39, 103, 104, 105, 106, 41, 37, 40, 107, 108, 109, 110, 43, 111, 112, 113, 114, 115, 116, 117, 118, 119, 120, 121, 122, 123, 124, 125, 126, 127, 128, 129, 130, 131, 132, 133, 134, 135, 136, 137, 138, 139, 140, 141, 142, 150, 151, 152, 153, 154, 155, 156, 157, 158, 159, 160, 161, 162, 163, 164, 165, 166, 167, 168, 169, 171, 172, 173, 174, 175, 176, 170, 177, 178, 179, 180, 181] (by decide +kernel) (by decide +kernel)
set_option maxRecDepth 20000 in
theorem gX9_list_X9_findTypedDirectory : GoodIn wsX9_list (wsV RX9 106 RX9 yX9_findTypedDirectory wsX9_findTypedDirectory) := goodIn_app (goodIn_of _ (by decide +kernel)) ggX9_list_X9_findTypedDirectory
set_option maxRecDepth 20000 in
theorem ggX9_list_X3_nameNumbered : GoodIn wsX9_list wsX3_nameNumbered := goodIn_r _ [146, 79, 147, 148, 120, 88, 89, 90, 91, 92, 93, 94, 95, 96, 97, 98, 44, 45, 6, 46, 10, 99, 100, 101, 102, 42, 39, 103, 104, 105, 106, 41, 9, 37, 40, 107, 108, 109, 18, 110, 20, 43, 111, 112, 113, 114, 115, 121, 122, 123, 124, 125, 126, 127, 128, 129, 130, 131, 132, 133, 134, 135, 16, 17, 19, 149, 173, 174, 175, 176, 177, 178, 179, 180, 181, 161, 162, 163, 164, 165, 166, 167, 168, 169, 170] (by decide +kernel) (by decide +kernel)
set_option maxRecDepth 20000 in
theorem gX9_list_X3_nameNumbered : GoodIn wsX9_list (wsV RX9 109 RX3 yX3_nameNumbered wsX3_nameNumbered) := goodIn_app (goodIn_of _ (by decide +kernel)) ggX9_list_X3_nameNumbered
theorem dX9_list_0 : decode cX9_list 0 = .ok (.aload_n 0, 1) := by decide +kernel
theorem dX9_list_1 : decode cX9_list 1 = .ok (.getfield 26, 3) := by decide +kernel
theorem dX9_list_4 : decode cX9_list 4 = .ok (.invokevirtual 86, 3) := by decide +kernel
theorem dX9_list_7 : decode cX9_list 7 = .ok (.istore_n 2, 1) := by decide +kernel
theorem dX9_list_8 : decode cX9_list 8 = .ok (.iload_n 2, 1) := by decide +kernel
theorem dX9_list_9 : decode cX9_list 9 = .ok (.ifCond .ge 6, 3) := by decide +kernel
theorem dX9_list_12 : decode cX9_list 12 = .ok (.iload_n 2, 1) := by decide +kernel
theorem dX9_list_13 : decode cX9_list 13 = .ok (.i2l, 1) := by decide +kernel
theorem dX9_list_14 : decode cX9_list 14 = .ok (.lreturn, 1) := by decide +kernel
theorem dX9_list_15 : decode cX9_list 15 = .ok (.aload_n 0, 1) := by decide +kernel
theorem dX9_list_16 : decode cX9_list 16 = .ok (.invokevirtual 106, 3) := by decide +kernel
theorem dX9_list_19 : decode cX9_list 19 = .ok (.istore_n 3, 1) := by decide +kernel
theorem dX9_list_20 : decode cX9_list 20 = .ok (.iload_n 3, 1) := by decide +kernel
theorem dX9_list_21 : decode cX9_list 21 = .ok (.ifCond .ge 8, 3) := by decide +kernel
theorem dX9_list_24 : decode cX9_list 24 = .ok (.iload_n 3, 1) := by decide +kernel
theorem dX9_list_25 : decode cX9_list 25 = .ok (.i2l, 1) := by decide +kernel
theorem dX9_list_26 : decode cX9_list 26 = .ok (.goto 12, 3) := by decide +kernel
theorem dX9_list_29 : decode cX9_list 29 = .ok (.aload_n 0, 1) := by decide +kernel
theorem dX9_list_30 : decode cX9_list 30 = .ok (.getfield 42, 3) := by decide +kernel
theorem dX9_list_33 : decode cX9_list 33 = .ok (.iload_n 3, 1) := by decide +kernel
theorem dX9_list_34 : decode cX9_list 34 = .ok (.iload_n 1, 1) := by decide +kernel
theorem dX9_list_35 : decode cX9_list 35 = .ok (.invokevirtual 109, 3) := by decide +kernel
theorem dX9_list_38 : decode cX9_list 38 = .ok (.lreturn, 1) := by decide +kernel
set_option maxRecDepth 20000 in
theorem ggX9_survey_X8_mount : GoodIn wsX9_survey wsX8_mount := goodIn_r _ [7, 8, 9, 10, 11, 12, 13, 6, 14, 15, 16, 17, 18, 19, 20, 21, 22, 23, 24, 25, 26, 27, 28, 29, 30, 31, 32, 33, 34, 35, 36, 37, 38, 39, 40, 41, 42, 43, 44, 45, 46, 127, 128, 129, 130, 131, 132, 133, 134, 135, 136] (by decide +kernel) (by decide +kernel)
set_option maxRecDepth 20000 in
theorem gX9_survey_X8_mount : GoodIn wsX9_survey (wsV RX9 86 RX8 yX8_mount wsX8_mount) := goodIn_app (goodIn_of _ (by decide +kernel)) ggX9_survey_X8_mount
set_option maxRecDepth 20000 in
theorem ggX9_survey_X1_countAll : GoodIn wsX9_survey wsX1_countAll := goodIn_r _ [51, 52, 53, 54, 55, 56, 57, 58, 50, 59, 60, 61, 62, 63, 64, 65, 66, 67, 68, 69, 70, 71, 44, 45, 6, 46, 10, 72, 73, 74, 75, 42, 39, 76, 77, 78, 79, 41, 9, 37, 40, 80, 81, 82, 18, 83, 20, 43, 84, 85, 86, 87, 88, 89, 90, 91, 92, 93, 94, 95, 96, 97, 98, 99, 100, 101, 102, 103, 16, 17, 19, 104, 105, 106, 107, 108, 109, 110, 111, 15, 112, 113, 114, 115, 137, 138, 139, 140, 127, 128, 129, 130, 131, 132, 133, 134, 135, 141, 142, 143, 144, 145, 136] (by decide +kernel) (by decide +kernel)
set_option maxRecDepth 20000 in
theorem gX9_survey_X1_countAll : GoodIn wsX9_survey (wsV RX9 113 RX1 yX1_countAll wsX1_countAll) := goodIn_app (goodIn_of _ (by decide +kernel)) ggX9_survey_X1_countAll
theorem dX9_survey_0 : decode cX9_survey 0 = .ok (.aload_n 0, 1) := by decide +kernel
theorem dX9_survey_1 : decode cX9_survey 1 = .ok (.getfield 26, 3) := by decide +kernel
theorem dX9_survey_4 : decode cX9_survey 4 = .ok (.invokevirtual 86, 3) := by decide +kernel
theorem dX9_survey_7 : decode cX9_survey 7 = .ok (.istore_n 1, 1) := by decide +kernel
theorem dX9_survey_8 : decode cX9_survey 8 = .ok (.iload_n 1, 1) := by decide +kernel
theorem dX9_survey_9 : decode cX9_survey 9 = .ok (.ifCond .ge 7, 3) := by decide +kernel
theorem dX9_survey_12 : decode cX9_survey 12 = .ok (.iload_n 1, 1) := by decide +kernel
theorem dX9_survey_13 : decode cX9_survey 13 = .ok (.goto 10, 3) := by decide +kernel
theorem dX9_survey_16 : decode cX9_survey 16 = .ok (.aload_n 0, 1) := by decide +kernel
theorem dX9_survey_17 : decode cX9_survey 17 = .ok (.getfield 49, 3) := by decide +kernel
theorem dX9_survey_20 : decode cX9_survey 20 = .ok (.invokevirtual 113, 3) := by decide +kernel
theorem dX9_survey_23 : decode cX9_survey 23 = .ok (.ireturn, 1) := by decide +kernel
set_option maxRecDepth 20000 in
theorem ggX9_boot_X8_mount : GoodIn wsX9_boot wsX8_mount := goodIn_r _ [10, 11, 12, 13, 14, 15, 16, 9, 17, 18, 19, 20, 21, 22, 23, 24, 25, 26, 27, 28, 29, 30, 31, 32, 33, 34, 35, 36, 37, 38, 39, 40, 41, 42, 43, 44, 45, 46, 47, 48, 49, 272, 273, 274, 275, 276, 277, 278, 279, 280, 281] (by decide +kernel) (by decide +kernel)
set_option maxRecDepth 20000 in
theorem gX9_boot_X8_mount : GoodIn wsX9_boot (wsV RX9 86 RX8 yX8_mount wsX8_mount) := goodIn_app (goodIn_of _ (by decide +kernel)) ggX9_boot_X8_mount
set_option maxRecDepth 20000 in
theorem ggX9_boot_X9_takeSettings : GoodIn wsX9_boot wsX9_takeSettings := goodIn_r _ [54, 55, 56, 57, 2, 58, 59, 60, 61, 62, 63, 64, 65, 66, 67, 68, 69, 70, 71, 72, 73, 74, 75, 76, 77, 78, 79, 80, 81, 82, 83, 84, 85, 86, 87, 88, 89, 9, 90, 12, 18, 19, 20, 21, 22, 23, 91, 92, 93, 94, 95, 96, 97, 98, 99, 100, 101, 102, 103, 104, 105, 47, 48, 49, 13, 106, 107, 108, 109, 45, 42, 110, 111, 112, 113, 44, 40, 43, 114, 115, 116, 117, 46, 118, 119, 120, 121, 122, 123, 124, 125, 126, 127, 128, 129, 130, 131, 132, 133, 134, 135, 136, 137, 138, 139, 140, 141, 142, 143, 144, 145, 146, 147, 148, 149, 150, 151, 152, 153, 154, 155, 156, 157, 158, 159, 160, 161, 162, 163, 164, 165, 166, 167, 168, 169, 170, 171, 172, 173, 174, 175, 176, 177, 178, 179, 180, 181, 182, 183, 184, 185, 186, 187, 254, 255, 256, 257, 258, 259, 260, 261, 262, 263, 264, 282, 283, 284, 285, 286, 287, 272, 273, 274, 275, 276, 277, 278, 279, 280, 281, 288, 289, 290, 291, 292, 265, 266, 267, 268, 269, 270, 271] (by decide +kernel) (by decide +kernel)
set_option maxRecDepth 20000 in
theorem gX9_boot_X9_takeSettings : GoodIn wsX9_boot (wsV RX9 116 RX9 yX9_takeSettings wsX9_takeSettings) := goodIn_app (goodIn_of _ (by decide +kernel)) ggX9_boot_X9_takeSettings
set_option maxRecDepth 20000 in
theorem ggX9_boot_X9_load : GoodIn wsX9_boot wsX9_load := goodIn_r _ [191, 55, 2, 192, 193, 194, 57, 195, 58, 196, 197, 198, 59, 60, 61, 62, 63, 64, 65, 66, 67, 68, 69, 70, 71, 72, 73, 74, 75, 76, 77, 78, 79, 80, 81, 82, 83, 84, 85, 86, 87, 88, 89, 9, 90, 12, 18, 19, 20, 21, 22, 23, 91, 92, 93, 94, 95, 96, 97, 98, 99, 100, 101, 102, 103, 104, 105, 47, 48, 49, 13, 106, 107, 108, 109, 45, 42, 110, 111, 112, 113, 44, 40, 43, 114, 115, 116, 117, 46, 118, 119, 120, 121, 122, 123, 124, 125, 126, 127, 128, 129, 130, 131, 132, 133, 134, 135, 136, 137, 138, 139, 140, 141, 142, 143, 144, 145, 146, 147, 148, 149, 150, 151, 152, 153, 154, 155, 156, 157, 199, 200, 201, 202, 203, 204, 205, 206, 207, 208, 209, 210, 211, 212, 213, 214, 215, 216, 177, 178, 179, 217, 218, 219, 220, 221, 222, 223, 224, 225, 226, 227, 228, 229, 230, 53, 231, 232, 233, 234, 235, 236, 237, 238, 239, 240, 241, 242, 243, 1, 244, 245, 246, 247, 248, 249, 250, 251, 252, 253, 254, 255, 256, 257, 258, 259, 260, 261, 262, 263, 264, 265, 266, 267, 268, 269, 270, 271, 282, 283, 284, 285, 293, 294, 295, 286, 287, 272, 273, 274, 275, 276, 277, 278, 279, 280, 281, 288, 289, 290, 291, 292] (by decide +kernel) (by decide +kernel)
set_option maxRecDepth 20000 in
theorem gX9_boot_X9_load : GoodIn wsX9_boot (wsV RX9 123 RX9 yX9_load wsX9_load) := goodIn_app (goodIn_of _ (by decide +kernel)) ggX9_boot_X9_load
theorem dX9_boot_0 : decode cX9_boot 0 = .ok (.aload_n 0, 1) := by decide +kernel
theorem dX9_boot_1 : decode cX9_boot 1 = .ok (.getfield 26, 3) := by decide +kernel
theorem dX9_boot_4 : decode cX9_boot 4 = .ok (.invokevirtual 86, 3) := by decide +kernel
theorem dX9_boot_7 : decode cX9_boot 7 = .ok (.istore_n 1, 1) := by decide +kernel
theorem dX9_boot_8 : decode cX9_boot 8 = .ok (.iload_n 1, 1) := by decide +kernel
theorem dX9_boot_9 : decode cX9_boot 9 = .ok (.ifCond .ge 5, 3) := by decide +kernel
theorem dX9_boot_12 : decode cX9_boot 12 = .ok (.iload_n 1, 1) := by decide +kernel
theorem dX9_boot_13 : decode cX9_boot 13 = .ok (.ireturn, 1) := by decide +kernel
theorem dX9_boot_14 : decode cX9_boot 14 = .ok (.aload_n 0, 1) := by decide +kernel
theorem dX9_boot_15 : decode cX9_boot 15 = .ok (.invokevirtual 116, 3) := by decide +kernel
theorem dX9_boot_18 : decode cX9_boot 18 = .ok (.istore_n 2, 1) := by decide +kernel
theorem dX9_boot_19 : decode cX9_boot 19 = .ok (.iload_n 2, 1) := by decide +kernel
theorem dX9_boot_20 : decode cX9_boot 20 = .ok (.ifCond .ge 5, 3) := by decide +kernel
theorem dX9_boot_23 : decode cX9_boot 23 = .ok (.iload_n 2, 1) := by decide +kernel
theorem dX9_boot_24 : decode cX9_boot 24 = .ok (.ireturn, 1) := by decide +kernel
theorem dX9_boot_25 : decode cX9_boot 25 = .ok (.aload_n 0, 1) := by decide +kernel
theorem dX9_boot_26 : decode cX9_boot 26 = .ok (.aload_n 0, 1) := by decide +kernel
theorem dX9_boot_27 : decode cX9_boot 27 = .ok (.getfield 56, 3) := by decide +kernel
theorem dX9_boot_30 : decode cX9_boot 30 = .ok (.getfield 119, 3) := by decide +kernel
theorem dX9_boot_33 : decode cX9_boot 33 = .ok (.invokevirtual 123, 3) := by decide +kernel
theorem dX9_boot_36 : decode cX9_boot 36 = .ok (.istore_n 3, 1) := by decide +kernel
theorem dX9_boot_37 : decode cX9_boot 37 = .ok (.iload_n 3, 1) := by decide +kernel
theorem dX9_boot_38 : decode cX9_boot 38 = .ok (.ifCond .eq 16, 3) := by decide +kernel
theorem dX9_boot_41 : decode cX9_boot 41 = .ok (.aload_n 0, 1) := by decide +kernel
theorem dX9_boot_42 : decode cX9_boot 42 = .ok (.getfield 56, 3) := by decide +kernel
theorem dX9_boot_45 : decode cX9_boot 45 = .ok (.getfield 127, 3) := by decide +kernel
theorem dX9_boot_48 : decode cX9_boot 48 = .ok (.getfield 130, 3) := by decide +kernel
theorem dX9_boot_51 : decode cX9_boot 51 = .ok (.ifCond .ne 5, 3) := by decide +kernel
theorem dX9_boot_54 : decode cX9_boot 54 = .ok (.iload_n 3, 1) := by decide +kernel
theorem dX9_boot_55 : decode cX9_boot 55 = .ok (.ireturn, 1) := by decide +kernel
theorem dX9_boot_56 : decode cX9_boot 56 = .ok (.aload_n 0, 1) := by decide +kernel
theorem dX9_boot_57 : decode cX9_boot 57 = .ok (.aload_n 0, 1) := by decide +kernel
theorem dX9_boot_58 : decode cX9_boot 58 = .ok (.getfield 56, 3) := by decide +kernel
theorem dX9_boot_61 : decode cX9_boot 61 = .ok (.getfield 127, 3) := by decide +kernel
theorem dX9_boot_64 : decode cX9_boot 64 = .ok (.invokevirtual 123, 3) := by decide +kernel
theorem dX9_boot_67 : decode cX9_boot 67 = .ok (.istore_n 3, 1) := by decide +kernel
theorem dX9_boot_68 : decode cX9_boot 68 = .ok (.iload_n 3, 1) := by decide +kernel
theorem dX9_boot_69 : decode cX9_boot 69 = .ok (.ifCond .ne 7, 3) := by decide +kernel
theorem dX9_boot_72 : decode cX9_boot 72 = .ok (.iconst 1, 1) := by decide +kernel
theorem dX9_boot_73 : decode cX9_boot 73 = .ok (.goto 4, 3) := by decide +kernel
theorem dX9_boot_76 : decode cX9_boot 76 = .ok (.iload_n 3, 1) := by decide +kernel
theorem dX9_boot_77 : decode cX9_boot 77 = .ok (.ireturn, 1) := by decide +kernel
set_option maxRecDepth 20000 in
theorem ggX9_memory_X0_byteAt : GoodIn wsX9_memory wsX0_byteAt := goodIn_r _ [6, 7, 19] (by decide +kernel) (by decide +kernel)
set_option maxRecDepth 20000 in
theorem gX9_memory_X0_byteAt : GoodIn wsX9_memory (wsV RX9 82 RX0 yX0_byteAt wsX0_byteAt) := goodIn_app (goodIn_of _ (by decide +kernel)) ggX9_memory_X0_byteAt
theorem dX9_memory_0 : decode cX9_memory 0 = .ok (.aload_n 0, 1) := by decide +kernel
theorem dX9_memory_1 : decode cX9_memory 1 = .ok (.getfield 18, 3) := by decide +kernel
theorem dX9_memory_4 : decode cX9_memory 4 = .ok (.iload_n 1, 1) := by decide +kernel
theorem dX9_memory_5 : decode cX9_memory 5 = .ok (.invokevirtual 82, 3) := by decide +kernel
theorem dX9_memory_8 : decode cX9_memory 8 = .ok (.ireturn, 1) := by decide +kernel
theorem dX9_entry_0 : decode cX9_entry 0 = .ok (.aload_n 0, 1) := by decide +kernel
theorem dX9_entry_1 : decode cX9_entry 1 = .ok (.getfield 75, 3) := by decide +kernel
theorem dX9_entry_4 : decode cX9_entry 4 = .ok (.ireturn, 1) := by decide +kernel
set_option maxRecDepth 20000 in
theorem ggX9_findTypedFile_X8_mount : GoodIn wsX9_findTypedFile wsX8_mount := goodIn_r _ [10, 11, 12, 13, 14, 15, 16, 9, 17, 18, 19, 20, 21, 22, 23, 24, 25, 26, 27, 28, 29, 30, 31, 32, 33, 34, 35, 36, 37, 38, 39, 40, 41, 42, 43, 44, 45, 46, 47, 48, 49, 150, 151, 152, 153, 154, 155, 156, 157, 158, 159] (by decide +kernel) (by decide +kernel)
set_option maxRecDepth 20000 in
theorem gX9_findTypedFile_X8_mount : GoodIn wsX9_findTypedFile (wsV RX9 86 RX8 yX8_mount wsX8_mount) := goodIn_app (goodIn_of _ (by decide +kernel)) ggX9_findTypedFile_X8_mount
set_option maxRecDepth 20000 in
theorem ggX9_findTypedFile_X5_parse : GoodIn wsX9_findTypedFile wsX5_parse := goodIn_r _ [54, 55, 56, 57, 58, 59, 60, 61, 62, 63, 53, 64, 160, 161] (by decide +kernel) (by decide +kernel)
set_option maxRecDepth 20000 in
theorem gX9_findTypedFile_X5_parse : GoodIn wsX9_findTypedFile (wsV RX9 136 RX5 yX5_parse wsX5_parse) := goodIn_app (goodIn_of _ (by decide +kernel)) ggX9_findTypedFile_X5_parse
set_option maxRecDepth 20000 in
theorem ggX9_findTypedFile_X3_findFile : GoodIn wsX9_findTypedFile wsX3_findFile := goodIn_r _ [69, 70, 71, 72, 73, 68, 74, 75, 76, 77, 78, 79, 80, 9, 81, 12, 18, 19, 20, 21, 22, 23, 82, 83, 84, 85, 86, 87, 88, 89, 90, 91, 92, 93, 94, 95, 96, 47, 48, 49, 13, 97, 98, 99, 100, 45, 42, 101, 102, 103, 104, 44, 40, 43, 105, 106, 107, 108, 46, 109, 110, 111, 112, 113, 114, 115, 116, 117, 118, 119, 120, 121, 122, 123, 124, 125, 126, 127, 128, 129, 130, 131, 132, 133, 134, 135, 136, 53, 137, 55, 138, 162, 163, 164, 165, 150, 151, 152, 153, 154, 155, 156, 157, 158, 160, 161, 159, 166, 167, 168, 169, 170] (by decide +kernel) (by decide +kernel)
set_option maxRecDepth 20000 in
theorem gX9_findTypedFile_X3_findFile : GoodIn wsX9_findTypedFile (wsV RX9 140 RX3 yX3_findFile wsX3_findFile) := goodIn_app (goodIn_of _ (by decide +kernel)) ggX9_findTypedFile_X3_findFile
theorem dX9_findTypedFile_0 : decode cX9_findTypedFile 0 = .ok (.aload_n 0, 1) := by decide +kernel
theorem dX9_findTypedFile_1 : decode cX9_findTypedFile 1 = .ok (.getfield 26, 3) := by decide +kernel
theorem dX9_findTypedFile_4 : decode cX9_findTypedFile 4 = .ok (.invokevirtual 86, 3) := by decide +kernel
theorem dX9_findTypedFile_7 : decode cX9_findTypedFile 7 = .ok (.istore_n 1, 1) := by decide +kernel
theorem dX9_findTypedFile_8 : decode cX9_findTypedFile 8 = .ok (.iload_n 1, 1) := by decide +kernel
theorem dX9_findTypedFile_9 : decode cX9_findTypedFile 9 = .ok (.ifCond .ge 5, 3) := by decide +kernel
theorem dX9_findTypedFile_12 : decode cX9_findTypedFile 12 = .ok (.iload_n 1, 1) := by decide +kernel
theorem dX9_findTypedFile_13 : decode cX9_findTypedFile 13 = .ok (.ireturn, 1) := by decide +kernel
theorem dX9_findTypedFile_14 : decode cX9_findTypedFile 14 = .ok (.aload_n 0, 1) := by decide +kernel
theorem dX9_findTypedFile_15 : decode cX9_findTypedFile 15 = .ok (.getfield 33, 3) := by decide +kernel
theorem dX9_findTypedFile_18 : decode cX9_findTypedFile 18 = .ok (.aload_n 0, 1) := by decide +kernel
theorem dX9_findTypedFile_19 : decode cX9_findTypedFile 19 = .ok (.getfield 67, 3) := by decide +kernel
theorem dX9_findTypedFile_22 : decode cX9_findTypedFile 22 = .ok (.iconst 0, 1) := by decide +kernel
theorem dX9_findTypedFile_23 : decode cX9_findTypedFile 23 = .ok (.aload_n 0, 1) := by decide +kernel
theorem dX9_findTypedFile_24 : decode cX9_findTypedFile 24 = .ok (.getfield 71, 3) := by decide +kernel
theorem dX9_findTypedFile_27 : decode cX9_findTypedFile 27 = .ok (.invokevirtual 136, 3) := by decide +kernel
theorem dX9_findTypedFile_30 : decode cX9_findTypedFile 30 = .ok (.ifCond .eq 17, 3) := by decide +kernel
theorem dX9_findTypedFile_33 : decode cX9_findTypedFile 33 = .ok (.aload_n 0, 1) := by decide +kernel
theorem dX9_findTypedFile_34 : decode cX9_findTypedFile 34 = .ok (.getfield 42, 3) := by decide +kernel
theorem dX9_findTypedFile_37 : decode cX9_findTypedFile 37 = .ok (.aload_n 0, 1) := by decide +kernel
theorem dX9_findTypedFile_38 : decode cX9_findTypedFile 38 = .ok (.getfield 33, 3) := by decide +kernel
theorem dX9_findTypedFile_41 : decode cX9_findTypedFile 41 = .ok (.invokevirtual 140, 3) := by decide +kernel
theorem dX9_findTypedFile_44 : decode cX9_findTypedFile 44 = .ok (.goto 5, 3) := by decide +kernel
theorem dX9_findTypedFile_47 : decode cX9_findTypedFile 47 = .ok (.bipush (-5), 2) := by decide +kernel
theorem dX9_findTypedFile_49 : decode cX9_findTypedFile 49 = .ok (.ireturn, 1) := by decide +kernel
set_option maxRecDepth 20000 in
theorem ggX9_findTypedDirectory_X5_parse : GoodIn wsX9_findTypedDirectory wsX5_parse := goodIn_r _ [11, 12, 13, 14, 15, 16, 17, 18, 19, 20, 10, 21, 132, 133] (by decide +kernel) (by decide +kernel)
set_option maxRecDepth 20000 in
theorem gX9_findTypedDirectory_X5_parse : GoodIn wsX9_findTypedDirectory (wsV RX9 136 RX5 yX5_parse wsX5_parse) := goodIn_app (goodIn_of _ (by decide +kernel)) ggX9_findTypedDirectory_X5_parse
set_option maxRecDepth 20000 in
theorem ggX9_findTypedDirectory_X3_find : GoodIn wsX9_findTypedDirectory wsX3_find := goodIn_r _ [26, 27, 28, 29, 30, 31, 32, 33, 34, 35, 36, 37, 38, 39, 40, 41, 42, 43, 44, 45, 46, 47, 48, 49, 50, 51, 52, 53, 54, 55, 56, 57, 58, 59, 60, 61, 62, 63, 64, 65, 66, 67, 68, 69, 70, 71, 72, 73, 74, 75, 76, 77, 78, 79, 80, 81, 82, 83, 84, 85, 86, 87, 25, 88, 89, 90, 91, 92, 93, 94, 95, 96, 97, 98, 99, 100, 101, 102, 103, 104, 105, 106, 107, 10, 108, 12, 109, 134, 135, 136, 137, 123, 124, 125, 126, 127, 128, 129, 130, 131, 132, 133, 138, 139, 140, 141, 142, 143] (by decide +kernel) (by decide +kernel)
set_option maxRecDepth 20000 in
theorem gX9_findTypedDirectory_X3_find : GoodIn wsX9_findTypedDirectory (wsV RX9 147 RX3 yX3_find wsX3_find) := goodIn_app (goodIn_of _ (by decide +kernel)) ggX9_findTypedDirectory_X3_find
set_option maxRecDepth 20000 in
theorem ggX9_findTypedDirectory_X8_isDirectory : GoodIn wsX9_findTypedDirectory wsX8_isDirectory := goodIn_r _ [35, 36, 37, 38, 39, 40, 41, 42, 123, 124, 125, 126, 127, 128, 129, 130, 131, 138] (by decide +kernel) (by decide +kernel)
set_option maxRecDepth 20000 in
theorem gX9_findTypedDirectory_X8_isDirectory : GoodIn wsX9_findTypedDirectory (wsV RX9 150 RX8 yX8_isDirectory wsX8_isDirectory) := goodIn_app (goodIn_of _ (by decide +kernel)) ggX9_findTypedDirectory_X8_isDirectory
set_option maxRecDepth 20000 in
theorem ggX9_findTypedDirectory_X8_firstClusterOf : GoodIn wsX9_findTypedDirectory wsX8_firstClusterOf := goodIn_r _ [46, 36, 37, 38, 39, 40, 41, 42, 123, 124, 125, 126, 127, 128, 129, 130, 131, 138] (by decide +kernel) (by decide +kernel)
set_option maxRecDepth 20000 in
theorem gX9_findTypedDirectory_X8_firstClusterOf : GoodIn wsX9_findTypedDirectory (wsV RX9 154 RX8 yX8_firstClusterOf wsX8_firstClusterOf) := goodIn_app (goodIn_of _ (by decide +kernel)) ggX9_findTypedDirectory_X8_firstClusterOf
theorem dX9_findTypedDirectory_0 : decode cX9_findTypedDirectory 0 = .ok (.aload_n 0, 1) := by decide +kernel
theorem dX9_findTypedDirectory_1 : decode cX9_findTypedDirectory 1 = .ok (.getfield 71, 3) := by decide +kernel
theorem dX9_findTypedDirectory_4 : decode cX9_findTypedDirectory 4 = .ok (.ifCond .ne 11, 3) := by decide +kernel
theorem dX9_findTypedDirectory_7 : decode cX9_findTypedDirectory 7 = .ok (.aload_n 0, 1) := by decide +kernel
theorem dX9_findTypedDirectory_8 : decode cX9_findTypedDirectory 8 = .ok (.getfield 26, 3) := by decide +kernel
theorem dX9_findTypedDirectory_11 : decode cX9_findTypedDirectory 11 = .ok (.getfield 144, 3) := by decide +kernel
theorem dX9_findTypedDirectory_14 : decode cX9_findTypedDirectory 14 = .ok (.ireturn, 1) := by decide +kernel
theorem dX9_findTypedDirectory_15 : decode cX9_findTypedDirectory 15 = .ok (.aload_n 0, 1) := by decide +kernel
theorem dX9_findTypedDirectory_16 : decode cX9_findTypedDirectory 16 = .ok (.getfield 33, 3) := by decide +kernel
theorem dX9_findTypedDirectory_19 : decode cX9_findTypedDirectory 19 = .ok (.aload_n 0, 1) := by decide +kernel
theorem dX9_findTypedDirectory_20 : decode cX9_findTypedDirectory 20 = .ok (.getfield 67, 3) := by decide +kernel
theorem dX9_findTypedDirectory_23 : decode cX9_findTypedDirectory 23 = .ok (.iconst 0, 1) := by decide +kernel
theorem dX9_findTypedDirectory_24 : decode cX9_findTypedDirectory 24 = .ok (.aload_n 0, 1) := by decide +kernel
theorem dX9_findTypedDirectory_25 : decode cX9_findTypedDirectory 25 = .ok (.getfield 71, 3) := by decide +kernel
theorem dX9_findTypedDirectory_28 : decode cX9_findTypedDirectory 28 = .ok (.invokevirtual 136, 3) := by decide +kernel
theorem dX9_findTypedDirectory_31 : decode cX9_findTypedDirectory 31 = .ok (.ifCond .ne 6, 3) := by decide +kernel
theorem dX9_findTypedDirectory_34 : decode cX9_findTypedDirectory 34 = .ok (.bipush (-5), 2) := by decide +kernel
theorem dX9_findTypedDirectory_36 : decode cX9_findTypedDirectory 36 = .ok (.ireturn, 1) := by decide +kernel
theorem dX9_findTypedDirectory_37 : decode cX9_findTypedDirectory 37 = .ok (.aload_n 0, 1) := by decide +kernel
theorem dX9_findTypedDirectory_38 : decode cX9_findTypedDirectory 38 = .ok (.getfield 42, 3) := by decide +kernel
theorem dX9_findTypedDirectory_41 : decode cX9_findTypedDirectory 41 = .ok (.aload_n 0, 1) := by decide +kernel
theorem dX9_findTypedDirectory_42 : decode cX9_findTypedDirectory 42 = .ok (.getfield 33, 3) := by decide +kernel
theorem dX9_findTypedDirectory_45 : decode cX9_findTypedDirectory 45 = .ok (.invokevirtual 147, 3) := by decide +kernel
theorem dX9_findTypedDirectory_48 : decode cX9_findTypedDirectory 48 = .ok (.istore_n 1, 1) := by decide +kernel
theorem dX9_findTypedDirectory_49 : decode cX9_findTypedDirectory 49 = .ok (.iload_n 1, 1) := by decide +kernel
theorem dX9_findTypedDirectory_50 : decode cX9_findTypedDirectory 50 = .ok (.ifCond .ge 5, 3) := by decide +kernel
theorem dX9_findTypedDirectory_53 : decode cX9_findTypedDirectory 53 = .ok (.iload_n 1, 1) := by decide +kernel
theorem dX9_findTypedDirectory_54 : decode cX9_findTypedDirectory 54 = .ok (.ireturn, 1) := by decide +kernel
theorem dX9_findTypedDirectory_55 : decode cX9_findTypedDirectory 55 = .ok (.aload_n 0, 1) := by decide +kernel
theorem dX9_findTypedDirectory_56 : decode cX9_findTypedDirectory 56 = .ok (.getfield 26, 3) := by decide +kernel
theorem dX9_findTypedDirectory_59 : decode cX9_findTypedDirectory 59 = .ok (.iload_n 1, 1) := by decide +kernel
theorem dX9_findTypedDirectory_60 : decode cX9_findTypedDirectory 60 = .ok (.invokevirtual 150, 3) := by decide +kernel
theorem dX9_findTypedDirectory_63 : decode cX9_findTypedDirectory 63 = .ok (.ifCond .eq 14, 3) := by decide +kernel
theorem dX9_findTypedDirectory_66 : decode cX9_findTypedDirectory 66 = .ok (.aload_n 0, 1) := by decide +kernel
theorem dX9_findTypedDirectory_67 : decode cX9_findTypedDirectory 67 = .ok (.getfield 26, 3) := by decide +kernel
theorem dX9_findTypedDirectory_70 : decode cX9_findTypedDirectory 70 = .ok (.iload_n 1, 1) := by decide +kernel
theorem dX9_findTypedDirectory_71 : decode cX9_findTypedDirectory 71 = .ok (.invokevirtual 154, 3) := by decide +kernel
theorem dX9_findTypedDirectory_74 : decode cX9_findTypedDirectory 74 = .ok (.goto 5, 3) := by decide +kernel
theorem dX9_findTypedDirectory_77 : decode cX9_findTypedDirectory 77 = .ok (.bipush (-8), 2) := by decide +kernel
theorem dX9_findTypedDirectory_79 : decode cX9_findTypedDirectory 79 = .ok (.ireturn, 1) := by decide +kernel
set_option maxRecDepth 20000 in
theorem ggX9_takeSettings_X5_parse : GoodIn wsX9_takeSettings wsX5_parse := goodIn_r _ [10, 11, 12, 13, 14, 15, 16, 17, 18, 19, 9, 20, 168, 169] (by decide +kernel) (by decide +kernel)
set_option maxRecDepth 20000 in
theorem gX9_takeSettings_X5_parse : GoodIn wsX9_takeSettings (wsV RX9 136 RX5 yX5_parse wsX5_parse) := goodIn_app (goodIn_of _ (by decide +kernel)) ggX9_takeSettings_X5_parse
set_option maxRecDepth 20000 in
theorem ggX9_takeSettings_X3_findFile : GoodIn wsX9_takeSettings wsX3_findFile := goodIn_r _ [25, 26, 27, 28, 29, 24, 30, 31, 32, 33, 34, 35, 36, 37, 38, 39, 40, 41, 42, 43, 44, 45, 46, 47, 48, 49, 50, 51, 52, 53, 54, 55, 56, 57, 58, 59, 60, 61, 62, 63, 64, 65, 66, 67, 68, 69, 70, 71, 72, 73, 74, 75, 76, 77, 78, 79, 80, 81, 82, 83, 84, 85, 86, 87, 88, 89, 90, 91, 92, 93, 94, 95, 96, 97, 98, 99, 100, 101, 102, 103, 104, 105, 106, 107, 108, 109, 110, 9, 111, 11, 112, 164, 165, 166, 167, 170, 171, 172, 173, 174, 175, 176, 177, 178, 168, 169, 179, 180, 181, 182, 183, 184] (by decide +kernel) (by decide +kernel)
set_option maxRecDepth 20000 in
theorem gX9_takeSettings_X3_findFile : GoodIn wsX9_takeSettings (wsV RX9 140 RX3 yX3_findFile wsX3_findFile) := goodIn_app (goodIn_of _ (by decide +kernel)) ggX9_takeSettings_X3_findFile
set_option maxRecDepth 20000 in
theorem ggX9_takeSettings_X3_open : GoodIn wsX9_takeSettings wsX3_open := goodIn_r _ [116, 26, 117, 118, 119, 120, 37, 121, 39, 78, 79, 80, 43, 81, 45, 46, 47, 48, 49, 40, 41, 42, 44, 50, 51, 52, 53, 54, 55, 56, 57, 58, 59, 60, 61, 62, 63, 64, 65, 66, 67, 68, 69, 70, 71, 72, 73, 74, 75, 76, 77, 82, 83, 84, 85, 86, 87, 122, 99, 100, 101, 102, 164, 165, 166, 167, 170, 171, 172, 173, 174, 175, 176, 177, 178, 179, 180, 181, 182, 183, 184] (by decide +kernel) (by decide +kernel)
set_option maxRecDepth 20000 in
theorem gX9_takeSettings_X3_open : GoodIn wsX9_takeSettings (wsV RX9 96 RX3 yX3_open wsX3_open) := goodIn_app (goodIn_of _ (by decide +kernel)) ggX9_takeSettings_X3_open
set_option maxRecDepth 20000 in
theorem ggX9_takeSettings_X6_take : GoodIn wsX9_takeSettings wsX6_take := goodIn_r _ [127, 128, 129, 130, 131, 132, 133, 134, 135, 136, 137, 138, 139, 140, 141, 142, 143, 53, 144, 97, 103, 104, 105, 106, 57, 102, 55, 59, 107, 41, 42, 43, 44, 45, 145, 146, 147, 126, 148, 149, 150, 151, 152, 185, 186, 187, 188, 189, 190, 191, 180, 181, 182, 183, 184, 170, 171, 172, 173, 174, 175, 176, 177, 178, 179] (by decide +kernel) (by decide +kernel)
set_option maxRecDepth 20000 in
theorem gX9_takeSettings_X6_take : GoodIn wsX9_takeSettings (wsV RX9 160 RX6 yX6_take wsX6_take) := goodIn_app (goodIn_of _ (by decide +kernel)) ggX9_takeSettings_X6_take
theorem dX9_takeSettings_0 : decode cX9_takeSettings 0 = .ok (.aload_n 0, 1) := by decide +kernel
theorem dX9_takeSettings_1 : decode cX9_takeSettings 1 = .ok (.getfield 33, 3) := by decide +kernel
theorem dX9_takeSettings_4 : decode cX9_takeSettings 4 = .ok (.getstatic 157, 3) := by decide +kernel
theorem dX9_takeSettings_7 : decode cX9_takeSettings 7 = .ok (.iconst 0, 1) := by decide +kernel
theorem dX9_takeSettings_8 : decode cX9_takeSettings 8 = .ok (.getstatic 157, 3) := by decide +kernel
theorem dX9_takeSettings_11 : decode cX9_takeSettings 11 = .ok (.arraylength, 1) := by decide +kernel
theorem dX9_takeSettings_12 : decode cX9_takeSettings 12 = .ok (.invokevirtual 136, 3) := by decide +kernel
theorem dX9_takeSettings_15 : decode cX9_takeSettings 15 = .ok (.pop, 1) := by decide +kernel
theorem dX9_takeSettings_16 : decode cX9_takeSettings 16 = .ok (.aload_n 0, 1) := by decide +kernel
theorem dX9_takeSettings_17 : decode cX9_takeSettings 17 = .ok (.getfield 42, 3) := by decide +kernel
theorem dX9_takeSettings_20 : decode cX9_takeSettings 20 = .ok (.aload_n 0, 1) := by decide +kernel
theorem dX9_takeSettings_21 : decode cX9_takeSettings 21 = .ok (.getfield 33, 3) := by decide +kernel
theorem dX9_takeSettings_24 : decode cX9_takeSettings 24 = .ok (.invokevirtual 140, 3) := by decide +kernel
theorem dX9_takeSettings_27 : decode cX9_takeSettings 27 = .ok (.istore_n 1, 1) := by decide +kernel
theorem dX9_takeSettings_28 : decode cX9_takeSettings 28 = .ok (.iload_n 1, 1) := by decide +kernel
theorem dX9_takeSettings_29 : decode cX9_takeSettings 29 = .ok (.ifCond .ge 5, 3) := by decide +kernel
theorem dX9_takeSettings_32 : decode cX9_takeSettings 32 = .ok (.iload_n 1, 1) := by decide +kernel
theorem dX9_takeSettings_33 : decode cX9_takeSettings 33 = .ok (.ireturn, 1) := by decide +kernel
theorem dX9_takeSettings_34 : decode cX9_takeSettings 34 = .ok (.aload_n 0, 1) := by decide +kernel
theorem dX9_takeSettings_35 : decode cX9_takeSettings 35 = .ok (.getfield 42, 3) := by decide +kernel
theorem dX9_takeSettings_38 : decode cX9_takeSettings 38 = .ok (.iload_n 1, 1) := by decide +kernel
theorem dX9_takeSettings_39 : decode cX9_takeSettings 39 = .ok (.invokevirtual 96, 3) := by decide +kernel
theorem dX9_takeSettings_42 : decode cX9_takeSettings 42 = .ok (.istore_n 2, 1) := by decide +kernel
theorem dX9_takeSettings_43 : decode cX9_takeSettings 43 = .ok (.iload_n 2, 1) := by decide +kernel
theorem dX9_takeSettings_44 : decode cX9_takeSettings 44 = .ok (.ifCond .ge 5, 3) := by decide +kernel
theorem dX9_takeSettings_47 : decode cX9_takeSettings 47 = .ok (.iload_n 2, 1) := by decide +kernel
theorem dX9_takeSettings_48 : decode cX9_takeSettings 48 = .ok (.ireturn, 1) := by decide +kernel
theorem dX9_takeSettings_49 : decode cX9_takeSettings 49 = .ok (.aload_n 0, 1) := by decide +kernel
theorem dX9_takeSettings_50 : decode cX9_takeSettings 50 = .ok (.getfield 56, 3) := by decide +kernel
theorem dX9_takeSettings_53 : decode cX9_takeSettings 53 = .ok (.aload_n 0, 1) := by decide +kernel
theorem dX9_takeSettings_54 : decode cX9_takeSettings 54 = .ok (.getfield 42, 3) := by decide +kernel
theorem dX9_takeSettings_57 : decode cX9_takeSettings 57 = .ok (.getfield 99, 3) := by decide +kernel
theorem dX9_takeSettings_60 : decode cX9_takeSettings 60 = .ok (.iload_n 2, 1) := by decide +kernel
theorem dX9_takeSettings_61 : decode cX9_takeSettings 61 = .ok (.invokevirtual 160, 3) := by decide +kernel
theorem dX9_takeSettings_64 : decode cX9_takeSettings 64 = .ok (.ifCond .eq 7, 3) := by decide +kernel
theorem dX9_takeSettings_67 : decode cX9_takeSettings 67 = .ok (.iconst 0, 1) := by decide +kernel
theorem dX9_takeSettings_68 : decode cX9_takeSettings 68 = .ok (.goto 5, 3) := by decide +kernel
theorem dX9_takeSettings_71 : decode cX9_takeSettings 71 = .ok (.bipush (-10), 2) := by decide +kernel
theorem dX9_takeSettings_73 : decode cX9_takeSettings 73 = .ok (.ireturn, 1) := by decide +kernel
set_option maxRecDepth 20000 in
theorem ggX9_load_X5_parse : GoodIn wsX9_load wsX5_parse := goodIn_r _ [16, 17, 18, 19, 20, 21, 22, 23, 24, 25, 15, 26, 214, 215] (by decide +kernel) (by decide +kernel)
set_option maxRecDepth 20000 in
theorem gX9_load_X5_parse : GoodIn wsX9_load (wsV RX9 136 RX5 yX5_parse wsX5_parse) := goodIn_app (goodIn_of _ (by decide +kernel)) ggX9_load_X5_parse
set_option maxRecDepth 20000 in
theorem ggX9_load_X3_findFile : GoodIn wsX9_load wsX3_findFile := goodIn_r _ [31, 32, 33, 34, 35, 30, 36, 37, 38, 39, 40, 41, 42, 43, 44, 45, 46, 47, 48, 49, 50, 51, 52, 53, 54, 55, 56, 57, 58, 59, 60, 61, 62, 63, 64, 65, 66, 67, 68, 69, 70, 71, 72, 73, 74, 75, 76, 77, 78, 79, 80, 81, 82, 83, 84, 85, 86, 87, 88, 89, 90, 91, 92, 93, 94, 95, 96, 97, 98, 99, 100, 101, 102, 103, 104, 105, 106, 107, 108, 109, 110, 111, 112, 113, 114, 115, 116, 15, 117, 17, 118, 207, 208, 209, 210, 216, 217, 218, 219, 220, 221, 222, 223, 224, 214, 215, 225, 226, 227, 228, 229, 230] (by decide +kernel) (by decide +kernel)
set_option maxRecDepth 20000 in
theorem gX9_load_X3_findFile : GoodIn wsX9_load (wsV RX9 140 RX3 yX3_findFile wsX3_findFile) := goodIn_app (goodIn_of _ (by decide +kernel)) ggX9_load_X3_findFile
set_option maxRecDepth 20000 in
theorem ggX9_load_X3_open : GoodIn wsX9_load wsX3_open := goodIn_r _ [122, 32, 123, 124, 125, 126, 43, 127, 45, 84, 85, 86, 49, 87, 51, 52, 53, 54, 55, 46, 47, 48, 50, 56, 57, 58, 59, 60, 61, 62, 63, 64, 65, 66, 67, 68, 69, 70, 71, 72, 73, 74, 75, 76, 77, 78, 79, 80, 81, 82, 83, 88, 89, 90, 91, 92, 93, 128, 105, 106, 107, 108, 207, 208, 209, 210, 216, 217, 218, 219, 220, 221, 222, 223, 224, 225, 226, 227, 228, 229, 230] (by decide +kernel) (by decide +kernel)
set_option maxRecDepth 20000 in
theorem gX9_load_X3_open : GoodIn wsX9_load (wsV RX9 96 RX3 yX3_open wsX3_open) := goodIn_app (goodIn_of _ (by decide +kernel)) ggX9_load_X3_open
set_option maxRecDepth 20000 in
theorem ggX9_load_X4_takeHeader : GoodIn wsX9_load wsX4_takeHeader := goodIn_r _ [133, 134, 135, 136, 137, 138, 139, 140, 132, 141, 142, 143, 144, 59, 145, 146, 147, 148, 149, 103, 109, 110, 111, 112, 63, 108, 61, 65, 113, 47, 48, 49, 50, 51, 211, 212, 213, 226, 227, 228, 229, 230, 216, 217, 218, 219, 220, 221, 222, 223, 224, 225] (by decide +kernel) (by decide +kernel)
set_option maxRecDepth 20000 in
theorem gX9_load_X4_takeHeader : GoodIn wsX9_load (wsV RX9 173 RX4 yX4_takeHeader wsX4_takeHeader) := goodIn_app (goodIn_of _ (by decide +kernel)) ggX9_load_X4_takeHeader
set_option maxRecDepth 20000 in
theorem ggX9_load_X4_fits : GoodIn wsX9_load wsX4_fits := goodIn_r _ [153, 135, 136, 211, 212, 213] (by decide +kernel) (by decide +kernel)
set_option maxRecDepth 20000 in
theorem gX9_load_X4_fits : GoodIn wsX9_load (wsV RX9 176 RX4 yX4_fits wsX4_fits) := goodIn_app (goodIn_of _ (by decide +kernel)) ggX9_load_X4_fits
set_option maxRecDepth 20000 in
theorem ggX9_load_X0_clear : GoodIn wsX9_load wsX0_clear := goodIn_r _ [157, 51, 158, 159, 21, 160, 225] (by decide +kernel) (by decide +kernel)
set_option maxRecDepth 20000 in
theorem gX9_load_X0_clear : GoodIn wsX9_load (wsV RX9 179 RX0 yX0_clear wsX0_clear) := goodIn_app (goodIn_of _ (by decide +kernel)) ggX9_load_X0_clear
set_option maxRecDepth 20000 in
theorem ggX9_load_X9_copyKernel : GoodIn wsX9_load wsX9_copyKernel := goodIn_r _ [165, 9, 7, 166, 6, 8, 167, 147, 148, 59, 149, 103, 109, 110, 111, 112, 63, 108, 61, 65, 113, 47, 48, 49, 50, 51, 168, 169, 170, 171, 189, 190, 191, 192, 193, 194, 195, 196, 197, 198, 199, 211, 212, 213, 207, 208, 209, 210, 226, 227, 228, 229, 230, 216, 217, 218, 219, 220, 221, 222, 223, 224, 225] (by decide +kernel) (by decide +kernel)
set_option maxRecDepth 20000 in
theorem gX9_load_X9_copyKernel : GoodIn wsX9_load (wsV RX9 182 RX9 yX9_copyKernel wsX9_copyKernel) := goodIn_app (goodIn_of _ (by decide +kernel)) ggX9_load_X9_copyKernel
set_option maxRecDepth 20000 in
theorem ggX9_load_X9_writeInformation : GoodIn wsX9_load wsX9_writeInformation := goodIn_r _ [175, 7, 2, 176, 5, 4, 166, 9, 177, 178, 179, 180, 181, 182, 183, 132, 184, 134, 168, 169, 170, 49, 171, 51, 189, 190, 191, 192, 193, 194, 195, 196, 197, 198, 199, 200, 201, 202, 203, 204, 205, 206, 211, 212, 213, 216, 217, 218, 219, 220, 221, 222, 223, 224, 225] (by decide +kernel) (by decide +kernel)
set_option maxRecDepth 20000 in
theorem gX9_load_X9_writeInformation : GoodIn wsX9_load (wsV RX9 185 RX9 yX9_writeInformation wsX9_writeInformation) := goodIn_app (goodIn_of _ (by decide +kernel)) ggX9_load_X9_writeInformation
set_option maxRecDepth 20000 in
theorem ggX9_load_X9_copyArguments : GoodIn wsX9_load wsX9_copyArguments := goodIn_r _ [188, 2, 176, 4, 5, 9, 3, 168, 169, 170, 49, 171, 51, 189, 190, 191, 192, 193, 194, 195, 196, 197, 198, 199, 200, 201, 202, 203, 204, 205, 206, 225] (by decide +kernel) (by decide +kernel)
set_option maxRecDepth 20000 in
theorem gX9_load_X9_copyArguments : GoodIn wsX9_load (wsV RX9 188 RX9 yX9_copyArguments wsX9_copyArguments) := goodIn_app (goodIn_of _ (by decide +kernel)) ggX9_load_X9_copyArguments
theorem dX9_load_0 : decode cX9_load 0 = .ok (.aload_n 0, 1) := by decide +kernel
theorem dX9_load_1 : decode cX9_load 1 = .ok (.getfield 33, 3) := by decide +kernel
theorem dX9_load_4 : decode cX9_load 4 = .ok (.aload_n 0, 1) := by decide +kernel
theorem dX9_load_5 : decode cX9_load 5 = .ok (.getfield 56, 3) := by decide +kernel
theorem dX9_load_8 : decode cX9_load 8 = .ok (.getfield 164, 3) := by decide +kernel
theorem dX9_load_11 : decode cX9_load 11 = .ok (.aload_n 1, 1) := by decide +kernel
theorem dX9_load_12 : decode cX9_load 12 = .ok (.getfield 167, 3) := by decide +kernel
theorem dX9_load_15 : decode cX9_load 15 = .ok (.aload_n 1, 1) := by decide +kernel
theorem dX9_load_16 : decode cX9_load 16 = .ok (.getfield 170, 3) := by decide +kernel
theorem dX9_load_19 : decode cX9_load 19 = .ok (.invokevirtual 136, 3) := by decide +kernel
theorem dX9_load_22 : decode cX9_load 22 = .ok (.ifCond .ne 6, 3) := by decide +kernel
theorem dX9_load_25 : decode cX9_load 25 = .ok (.bipush (-5), 2) := by decide +kernel
theorem dX9_load_27 : decode cX9_load 27 = .ok (.ireturn, 1) := by decide +kernel
theorem dX9_load_28 : decode cX9_load 28 = .ok (.aload_n 0, 1) := by decide +kernel
theorem dX9_load_29 : decode cX9_load 29 = .ok (.getfield 42, 3) := by decide +kernel
theorem dX9_load_32 : decode cX9_load 32 = .ok (.aload_n 0, 1) := by decide +kernel
theorem dX9_load_33 : decode cX9_load 33 = .ok (.getfield 33, 3) := by decide +kernel
theorem dX9_load_36 : decode cX9_load 36 = .ok (.invokevirtual 140, 3) := by decide +kernel
theorem dX9_load_39 : decode cX9_load 39 = .ok (.istore_n 2, 1) := by decide +kernel
theorem dX9_load_40 : decode cX9_load 40 = .ok (.iload_n 2, 1) := by decide +kernel
theorem dX9_load_41 : decode cX9_load 41 = .ok (.ifCond .ge 5, 3) := by decide +kernel
theorem dX9_load_44 : decode cX9_load 44 = .ok (.iload_n 2, 1) := by decide +kernel
theorem dX9_load_45 : decode cX9_load 45 = .ok (.ireturn, 1) := by decide +kernel
theorem dX9_load_46 : decode cX9_load 46 = .ok (.aload_n 0, 1) := by decide +kernel
theorem dX9_load_47 : decode cX9_load 47 = .ok (.getfield 42, 3) := by decide +kernel
theorem dX9_load_50 : decode cX9_load 50 = .ok (.iload_n 2, 1) := by decide +kernel
theorem dX9_load_51 : decode cX9_load 51 = .ok (.invokevirtual 96, 3) := by decide +kernel
theorem dX9_load_54 : decode cX9_load 54 = .ok (.istore_n 3, 1) := by decide +kernel
theorem dX9_load_55 : decode cX9_load 55 = .ok (.iload_n 3, 1) := by decide +kernel
theorem dX9_load_56 : decode cX9_load 56 = .ok (.ifCond .ge 5, 3) := by decide +kernel
theorem dX9_load_59 : decode cX9_load 59 = .ok (.iload_n 3, 1) := by decide +kernel
theorem dX9_load_60 : decode cX9_load 60 = .ok (.ireturn, 1) := by decide +kernel
theorem dX9_load_61 : decode cX9_load 61 = .ok (.aload_n 0, 1) := by decide +kernel
theorem dX9_load_62 : decode cX9_load 62 = .ok (.getfield 63, 3) := by decide +kernel

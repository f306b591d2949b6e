theorem dX10_take_16 : decode cX10_take 16 = .ok (.iinc 3 1, 3) := by decide +kernel
theorem dX10_take_19 : decode cX10_take 19 = .ok (.goto (-17), 3) := by decide +kernel
theorem dX10_take_22 : decode cX10_take 22 = .ok (.aload_n 0, 1) := by decide +kernel
theorem dX10_take_23 : decode cX10_take 23 = .ok (.iload_n 2, 1) := by decide +kernel
theorem dX10_take_24 : decode cX10_take 24 = .ok (.putfield 110, 3) := by decide +kernel
theorem dX10_take_27 : decode cX10_take 27 = .ok (.return_, 1) := by decide +kernel
set_option maxRecDepth 20000 in
theorem ggX10_isBroken_X10_sizeAt : GoodIn wsX10_isBroken wsX10_sizeAt := goodIn_r _ [7, 8, 9, 10, 6, 11, 1, 28, 29, 30, 31, 32, 33, 34, 35, 36, 37, 38, 39, 40, 41, 42, 43, 44, 45, 46, 47, 48, 49, 50, 51, 52, 53] (by decide +kernel) (by decide +kernel)
set_option maxRecDepth 20000 in
theorem gX10_isBroken_X10_sizeAt : GoodIn wsX10_isBroken (wsV RX10 126 RX10 yX10_sizeAt wsX10_sizeAt) := goodIn_app (goodIn_of _ (by decide +kernel)) ggX10_isBroken_X10_sizeAt
set_option maxRecDepth 20000 in
theorem ggX10_isBroken_X10_chain : GoodIn wsX10_isBroken wsX10_chain := goodIn_r _ [15, 16, 17, 18, 19, 6, 20, 21, 22, 23, 24, 25, 26, 27, 8, 9, 10, 11, 1, 28, 29, 30, 31, 32, 33, 34, 35, 36, 37, 38, 39, 40, 41, 42, 43, 44, 45, 46, 47, 48, 49, 50, 51, 52, 53] (by decide +kernel) (by decide +kernel)
set_option maxRecDepth 20000 in
theorem gX10_isBroken_X10_chain : GoodIn wsX10_isBroken (wsV RX10 94 RX10 yX10_chain wsX10_chain) := goodIn_app (goodIn_of _ (by decide +kernel)) ggX10_isBroken_X10_chain
theorem dX10_isBroken_0 : decode cX10_isBroken 0 = .ok (.aload_n 0, 1) := by decide +kernel
theorem dX10_isBroken_1 : decode cX10_isBroken 1 = .ok (.iload_n 1, 1) := by decide +kernel
theorem dX10_isBroken_2 : decode cX10_isBroken 2 = .ok (.invokevirtual 126, 3) := by decide +kernel
theorem dX10_isBroken_5 : decode cX10_isBroken 5 = .ok (.istore_n 2, 1) := by decide +kernel
theorem dX10_isBroken_6 : decode cX10_isBroken 6 = .ok (.iload_n 2, 1) := by decide +kernel
theorem dX10_isBroken_7 : decode cX10_isBroken 7 = .ok (.ifCond .ne 5, 3) := by decide +kernel
theorem dX10_isBroken_10 : decode cX10_isBroken 10 = .ok (.iconst 0, 1) := by decide +kernel
theorem dX10_isBroken_11 : decode cX10_isBroken 11 = .ok (.ireturn, 1) := by decide +kernel
theorem dX10_isBroken_12 : decode cX10_isBroken 12 = .ok (.aload_n 0, 1) := by decide +kernel
theorem dX10_isBroken_13 : decode cX10_isBroken 13 = .ok (.aload_n 0, 1) := by decide +kernel
theorem dX10_isBroken_14 : decode cX10_isBroken 14 = .ok (.getfield 7, 3) := by decide +kernel
theorem dX10_isBroken_17 : decode cX10_isBroken 17 = .ok (.iload_n 1, 1) := by decide +kernel
theorem dX10_isBroken_18 : decode cX10_isBroken 18 = .ok (.iconst 5, 1) := by decide +kernel
theorem dX10_isBroken_19 : decode cX10_isBroken 19 = .ok (.iadd, 1) := by decide +kernel
theorem dX10_isBroken_20 : decode cX10_isBroken 20 = .ok (.iaload, 1) := by decide +kernel
theorem dX10_isBroken_21 : decode cX10_isBroken 21 = .ok (.invokevirtual 94, 3) := by decide +kernel
theorem dX10_isBroken_24 : decode cX10_isBroken 24 = .ok (.istore_n 3, 1) := by decide +kernel
theorem dX10_isBroken_25 : decode cX10_isBroken 25 = .ok (.iload_n 3, 1) := by decide +kernel
theorem dX10_isBroken_26 : decode cX10_isBroken 26 = .ok (.ifCond .lt 16, 3) := by decide +kernel
theorem dX10_isBroken_29 : decode cX10_isBroken 29 = .ok (.bipush 32, 2) := by decide +kernel
theorem dX10_isBroken_31 : decode cX10_isBroken 31 = .ok (.aload_n 0, 1) := by decide +kernel
theorem dX10_isBroken_32 : decode cX10_isBroken 32 = .ok (.getfield 63, 3) := by decide +kernel
theorem dX10_isBroken_35 : decode cX10_isBroken 35 = .ok (.imul, 1) := by decide +kernel
theorem dX10_isBroken_36 : decode cX10_isBroken 36 = .ok (.iload_n 3, 1) := by decide +kernel
theorem dX10_isBroken_37 : decode cX10_isBroken 37 = .ok (.imul, 1) := by decide +kernel
theorem dX10_isBroken_38 : decode cX10_isBroken 38 = .ok (.iload_n 2, 1) := by decide +kernel
theorem dX10_isBroken_39 : decode cX10_isBroken 39 = .ok (.if_icmp .ge 7, 3) := by decide +kernel
theorem dX10_isBroken_42 : decode cX10_isBroken 42 = .ok (.iconst 1, 1) := by decide +kernel
theorem dX10_isBroken_43 : decode cX10_isBroken 43 = .ok (.goto 4, 3) := by decide +kernel
theorem dX10_isBroken_46 : decode cX10_isBroken 46 = .ok (.iconst 0, 1) := by decide +kernel
theorem dX10_isBroken_47 : decode cX10_isBroken 47 = .ok (.ireturn, 1) := by decide +kernel
set_option maxRecDepth 20000 in
theorem ggX10_byteOf_X10_place : GoodIn wsX10_byteOf wsX10_place := goodIn_r _ [6, 7, 8, 9, 10, 11, 5, 12, 13, 14, 15, 16, 17, 18, 19, 1, 20, 21, 22, 23, 24, 25, 26, 27, 28, 29, 30, 31, 32, 33, 34, 35, 36, 37, 38, 39, 40, 41, 42, 43, 44, 45, 46, 47, 48, 49, 50] (by decide +kernel) (by decide +kernel)
set_option maxRecDepth 20000 in
theorem gX10_byteOf_X10_place : GoodIn wsX10_byteOf (wsV RX10 90 RX10 yX10_place wsX10_place) := goodIn_app (goodIn_of _ (by decide +kernel)) ggX10_byteOf_X10_place
theorem dX10_byteOf_0 : decode cX10_byteOf 0 = .ok (.aload_n 0, 1) := by decide +kernel
theorem dX10_byteOf_1 : decode cX10_byteOf 1 = .ok (.aload_n 0, 1) := by decide +kernel
theorem dX10_byteOf_2 : decode cX10_byteOf 2 = .ok (.getfield 7, 3) := by decide +kernel
theorem dX10_byteOf_5 : decode cX10_byteOf 5 = .ok (.iload_n 1, 1) := by decide +kernel
theorem dX10_byteOf_6 : decode cX10_byteOf 6 = .ok (.iconst 5, 1) := by decide +kernel
theorem dX10_byteOf_7 : decode cX10_byteOf 7 = .ok (.iadd, 1) := by decide +kernel
theorem dX10_byteOf_8 : decode cX10_byteOf 8 = .ok (.iaload, 1) := by decide +kernel
theorem dX10_byteOf_9 : decode cX10_byteOf 9 = .ok (.iload_n 2, 1) := by decide +kernel
theorem dX10_byteOf_10 : decode cX10_byteOf 10 = .ok (.invokevirtual 90, 3) := by decide +kernel
theorem dX10_byteOf_13 : decode cX10_byteOf 13 = .ok (.istore_n 3, 1) := by decide +kernel
theorem dX10_byteOf_14 : decode cX10_byteOf 14 = .ok (.aload_n 0, 1) := by decide +kernel
theorem dX10_byteOf_15 : decode cX10_byteOf 15 = .ok (.getfield 7, 3) := by decide +kernel
theorem dX10_byteOf_18 : decode cX10_byteOf 18 = .ok (.iload_n 3, 1) := by decide +kernel
theorem dX10_byteOf_19 : decode cX10_byteOf 19 = .ok (.iaload, 1) := by decide +kernel
theorem dX10_byteOf_20 : decode cX10_byteOf 20 = .ok (.ireturn, 1) := by decide +kernel
theorem dX10_type_0 : decode cX10_type 0 = .ok (.aload_n 0, 1) := by decide +kernel
theorem dX10_type_1 : decode cX10_type 1 = .ok (.getfield 129, 3) := by decide +kernel
theorem dX10_type_4 : decode cX10_type 4 = .ok (.bipush 20, 2) := by decide +kernel
theorem dX10_type_6 : decode cX10_type 6 = .ok (.if_icmp .ge 15, 3) := by decide +kernel
theorem dX10_type_9 : decode cX10_type 9 = .ok (.iload_n 1, 1) := by decide +kernel
theorem dX10_type_10 : decode cX10_type 10 = .ok (.bipush 32, 2) := by decide +kernel
theorem dX10_type_12 : decode cX10_type 12 = .ok (.if_icmp .lt 9, 3) := by decide +kernel
theorem dX10_type_15 : decode cX10_type 15 = .ok (.iload_n 1, 1) := by decide +kernel
theorem dX10_type_16 : decode cX10_type 16 = .ok (.bipush 126, 2) := by decide +kernel
theorem dX10_type_18 : decode cX10_type 18 = .ok (.if_icmp .le 5, 3) := by decide +kernel
theorem dX10_type_21 : decode cX10_type 21 = .ok (.iconst 0, 1) := by decide +kernel
theorem dX10_type_22 : decode cX10_type 22 = .ok (.ireturn, 1) := by decide +kernel
theorem dX10_type_23 : decode cX10_type 23 = .ok (.aload_n 0, 1) := by decide +kernel
theorem dX10_type_24 : decode cX10_type 24 = .ok (.getfield 20, 3) := by decide +kernel
theorem dX10_type_27 : decode cX10_type 27 = .ok (.aload_n 0, 1) := by decide +kernel
theorem dX10_type_28 : decode cX10_type 28 = .ok (.getfield 129, 3) := by decide +kernel
theorem dX10_type_31 : decode cX10_type 31 = .ok (.iload_n 1, 1) := by decide +kernel
theorem dX10_type_32 : decode cX10_type 32 = .ok (.iastore, 1) := by decide +kernel
theorem dX10_type_33 : decode cX10_type 33 = .ok (.aload_n 0, 1) := by decide +kernel
theorem dX10_type_34 : decode cX10_type 34 = .ok (.dup, 1) := by decide +kernel
theorem dX10_type_35 : decode cX10_type 35 = .ok (.getfield 129, 3) := by decide +kernel
theorem dX10_type_38 : decode cX10_type 38 = .ok (.iconst 1, 1) := by decide +kernel
theorem dX10_type_39 : decode cX10_type 39 = .ok (.iadd, 1) := by decide +kernel
theorem dX10_type_40 : decode cX10_type 40 = .ok (.putfield 129, 3) := by decide +kernel
theorem dX10_type_43 : decode cX10_type 43 = .ok (.iconst 1, 1) := by decide +kernel
theorem dX10_type_44 : decode cX10_type 44 = .ok (.ireturn, 1) := by decide +kernel
theorem dX10_scrap_0 : decode cX10_scrap 0 = .ok (.aload_n 0, 1) := by decide +kernel
theorem dX10_scrap_1 : decode cX10_scrap 1 = .ok (.getfield 129, 3) := by decide +kernel
theorem dX10_scrap_4 : decode cX10_scrap 4 = .ok (.istore_n 1, 1) := by decide +kernel
theorem dX10_scrap_5 : decode cX10_scrap 5 = .ok (.aload_n 0, 1) := by decide +kernel
theorem dX10_scrap_6 : decode cX10_scrap 6 = .ok (.iconst 0, 1) := by decide +kernel
theorem dX10_scrap_7 : decode cX10_scrap 7 = .ok (.putfield 129, 3) := by decide +kernel
theorem dX10_scrap_10 : decode cX10_scrap 10 = .ok (.iload_n 1, 1) := by decide +kernel
theorem dX10_scrap_11 : decode cX10_scrap 11 = .ok (.ireturn, 1) := by decide +kernel
set_option maxRecDepth 20000 in
theorem ggX10_fileOfText_X10_volume : GoodIn wsX10_fileOfText wsX10_volume := goodIn_r _ [7, 8, 9, 10, 11, 12, 13, 14, 15, 16, 17, 18, 19, 6, 20, 21, 22, 23, 24, 86, 87, 88, 89, 90, 91, 92, 93, 94, 95, 96, 97, 98, 99, 100, 101, 102, 103, 104, 105, 106, 107, 108, 109, 110, 111] (by decide +kernel) (by decide +kernel)
set_option maxRecDepth 20000 in
theorem gX10_fileOfText_X10_volume : GoodIn wsX10_fileOfText (wsV RX10 132 RX10 yX10_volume wsX10_volume) := goodIn_app (goodIn_of _ (by decide +kernel)) ggX10_fileOfText_X10_volume
set_option maxRecDepth 20000 in
theorem ggX10_fileOfText_X10_take : GoodIn wsX10_fileOfText wsX10_take := goodIn_r _ [28, 29, 30, 86, 87, 88, 89, 90, 91, 92, 93, 94, 95, 96, 97, 98, 99, 100, 101, 102, 103, 104, 105, 106, 107, 108, 109, 110, 111] (by decide +kernel) (by decide +kernel)
set_option maxRecDepth 20000 in
theorem gX10_fileOfText_X10_take : GoodIn wsX10_fileOfText (wsV RX10 135 RX10 yX10_take wsX10_take) := goodIn_app (goodIn_of _ (by decide +kernel)) ggX10_fileOfText_X10_take
set_option maxRecDepth 20000 in
theorem ggX10_fileOfText_X10_find : GoodIn wsX10_fileOfText wsX10_find := goodIn_r _ [34, 13, 35, 36, 8, 37, 38, 39, 6, 40, 30, 29, 41, 42, 43, 44, 45, 46, 47, 48, 49, 50, 51, 52, 14, 53, 54, 55, 56, 57, 58, 59, 60, 15, 11, 12, 61, 62, 63, 64, 65, 66, 67, 68, 10, 69, 70, 71, 72, 16, 73, 74, 75, 76, 77, 78, 79, 80, 81, 82, 83, 84, 85, 86, 87, 88, 89, 90, 91, 92, 93, 94, 95, 96, 97, 98, 99, 100, 101, 102, 103, 104, 105, 106, 107, 108, 109, 110, 111] (by decide +kernel) (by decide +kernel)
set_option maxRecDepth 20000 in
theorem gX10_fileOfText_X10_find : GoodIn wsX10_fileOfText (wsV RX10 139 RX10 yX10_find wsX10_find) := goodIn_app (goodIn_of _ (by decide +kernel)) ggX10_fileOfText_X10_find
set_option maxRecDepth 20000 in
theorem ggX10_fileOfText_X10_isDirectory : GoodIn wsX10_fileOfText wsX10_isDirectory := goodIn_r _ [85, 8, 86, 87, 88, 89, 90, 91, 92, 93, 94, 95, 96, 97, 98, 99, 100, 101, 102, 103, 104, 105, 106, 107, 108, 109, 110, 111] (by decide +kernel) (by decide +kernel)
set_option maxRecDepth 20000 in
theorem gX10_fileOfText_X10_isDirectory : GoodIn wsX10_fileOfText (wsV RX10 123 RX10 yX10_isDirectory wsX10_isDirectory) := goodIn_app (goodIn_of _ (by decide +kernel)) ggX10_fileOfText_X10_isDirectory
theorem dX10_fileOfText_0 : decode cX10_fileOfText 0 = .ok (.aload_n 0, 1) := by decide +kernel
theorem dX10_fileOfText_1 : decode cX10_fileOfText 1 = .ok (.invokevirtual 132, 3) := by decide +kernel
theorem dX10_fileOfText_4 : decode cX10_fileOfText 4 = .ok (.istore_n 1, 1) := by decide +kernel
theorem dX10_fileOfText_5 : decode cX10_fileOfText 5 = .ok (.iload_n 1, 1) := by decide +kernel
theorem dX10_fileOfText_6 : decode cX10_fileOfText 6 = .ok (.ifCond .ge 5, 3) := by decide +kernel
theorem dX10_fileOfText_9 : decode cX10_fileOfText 9 = .ok (.iload_n 1, 1) := by decide +kernel
theorem dX10_fileOfText_10 : decode cX10_fileOfText 10 = .ok (.ireturn, 1) := by decide +kernel
theorem dX10_fileOfText_11 : decode cX10_fileOfText 11 = .ok (.aload_n 0, 1) := by decide +kernel
theorem dX10_fileOfText_12 : decode cX10_fileOfText 12 = .ok (.aload_n 0, 1) := by decide +kernel
theorem dX10_fileOfText_13 : decode cX10_fileOfText 13 = .ok (.getfield 20, 3) := by decide +kernel
theorem dX10_fileOfText_16 : decode cX10_fileOfText 16 = .ok (.aload_n 0, 1) := by decide +kernel
theorem dX10_fileOfText_17 : decode cX10_fileOfText 17 = .ok (.getfield 129, 3) := by decide +kernel
theorem dX10_fileOfText_20 : decode cX10_fileOfText 20 = .ok (.invokevirtual 135, 3) := by decide +kernel
theorem dX10_fileOfText_23 : decode cX10_fileOfText 23 = .ok (.aload_n 0, 1) := by decide +kernel
theorem dX10_fileOfText_24 : decode cX10_fileOfText 24 = .ok (.invokevirtual 139, 3) := by decide +kernel
theorem dX10_fileOfText_27 : decode cX10_fileOfText 27 = .ok (.istore_n 2, 1) := by decide +kernel
theorem dX10_fileOfText_28 : decode cX10_fileOfText 28 = .ok (.iload_n 2, 1) := by decide +kernel
theorem dX10_fileOfText_29 : decode cX10_fileOfText 29 = .ok (.ifCond .lt 16, 3) := by decide +kernel
theorem dX10_fileOfText_32 : decode cX10_fileOfText 32 = .ok (.aload_n 0, 1) := by decide +kernel
theorem dX10_fileOfText_33 : decode cX10_fileOfText 33 = .ok (.iload_n 2, 1) := by decide +kernel
theorem dX10_fileOfText_34 : decode cX10_fileOfText 34 = .ok (.invokevirtual 123, 3) := by decide +kernel
theorem dX10_fileOfText_37 : decode cX10_fileOfText 37 = .ok (.ifCond .eq 8, 3) := by decide +kernel
theorem dX10_fileOfText_40 : decode cX10_fileOfText 40 = .ok (.bipush (-7), 2) := by decide +kernel
theorem dX10_fileOfText_42 : decode cX10_fileOfText 42 = .ok (.goto 4, 3) := by decide +kernel
theorem dX10_fileOfText_45 : decode cX10_fileOfText 45 = .ok (.iload_n 2, 1) := by decide +kernel
theorem dX10_fileOfText_46 : decode cX10_fileOfText 46 = .ok (.ireturn, 1) := by decide +kernel
set_option maxRecDepth 20000 in
theorem ggX10_size_X10_fileOfText : GoodIn wsX10_size wsX10_fileOfText := goodIn_r _ [5, 6, 7, 8, 9, 10, 4, 11, 12, 13, 14, 15, 16, 17, 18, 19, 20, 21, 22, 23, 24, 25, 26, 27, 28, 29, 30, 31, 32, 33, 34, 35, 36, 37, 38, 39, 40, 41, 42, 43, 44, 45, 46, 47, 48, 49, 50, 51, 52, 53, 54, 55, 56, 57, 58, 59, 60, 61, 62, 63, 64, 65, 66, 67, 68, 69, 70, 71, 72, 73, 74, 75, 76, 77, 78, 79, 80, 81, 82, 83, 84, 85, 86, 87, 88, 89, 94, 95, 96, 97, 98, 99, 100, 101, 102, 103, 104, 105, 106, 107, 108, 109, 110, 111, 112, 113, 114, 115, 116, 117, 118, 119] (by decide +kernel) (by decide +kernel)
set_option maxRecDepth 20000 in
theorem gX10_size_X10_fileOfText : GoodIn wsX10_size (wsV RX10 142 RX10 yX10_fileOfText wsX10_fileOfText) := goodIn_app (goodIn_of _ (by decide +kernel)) ggX10_size_X10_fileOfText
set_option maxRecDepth 20000 in
theorem ggX10_size_X10_sizeAt : GoodIn wsX10_size wsX10_sizeAt := goodIn_r _ [93, 65, 66, 67, 4, 68, 12, 94, 95, 96, 97, 98, 99, 100, 101, 102, 103, 104, 105, 106, 107, 108, 109, 110, 111, 112, 113, 114, 115, 116, 117, 118, 119] (by decide +kernel) (by decide +kernel)
set_option maxRecDepth 20000 in
theorem gX10_size_X10_sizeAt : GoodIn wsX10_size (wsV RX10 126 RX10 yX10_sizeAt wsX10_sizeAt) := goodIn_app (goodIn_of _ (by decide +kernel)) ggX10_size_X10_sizeAt
theorem dX10_size_0 : decode cX10_size 0 = .ok (.aload_n 0, 1) := by decide +kernel
theorem dX10_size_1 : decode cX10_size 1 = .ok (.invokevirtual 142, 3) := by decide +kernel
theorem dX10_size_4 : decode cX10_size 4 = .ok (.istore_n 1, 1) := by decide +kernel
theorem dX10_size_5 : decode cX10_size 5 = .ok (.iload_n 1, 1) := by decide +kernel
theorem dX10_size_6 : decode cX10_size 6 = .ok (.ifCond .ge 7, 3) := by decide +kernel
theorem dX10_size_9 : decode cX10_size 9 = .ok (.iload_n 1, 1) := by decide +kernel
theorem dX10_size_10 : decode cX10_size 10 = .ok (.goto 8, 3) := by decide +kernel
theorem dX10_size_13 : decode cX10_size 13 = .ok (.aload_n 0, 1) := by decide +kernel
theorem dX10_size_14 : decode cX10_size 14 = .ok (.iload_n 1, 1) := by decide +kernel
theorem dX10_size_15 : decode cX10_size 15 = .ok (.invokevirtual 126, 3) := by decide +kernel
theorem dX10_size_18 : decode cX10_size 18 = .ok (.ireturn, 1) := by decide +kernel
set_option maxRecDepth 20000 in
theorem ggX10_read_X10_fileOfText : GoodIn wsX10_read wsX10_fileOfText := goodIn_r _ [5, 6, 7, 8, 9, 10, 4, 11, 12, 13, 14, 15, 16, 17, 18, 19, 20, 21, 22, 23, 24, 25, 26, 27, 28, 29, 30, 31, 32, 33, 34, 35, 36, 37, 38, 39, 40, 41, 42, 43, 44, 45, 46, 47, 48, 49, 50, 51, 52, 53, 54, 55, 56, 57, 58, 59, 60, 61, 62, 63, 64, 65, 66, 67, 68, 69, 70, 71, 72, 73, 74, 75, 76, 77, 78, 79, 80, 81, 82, 83, 84, 85, 86, 87, 88, 89, 102, 103, 104, 105, 106, 107, 108, 109, 110, 111, 112, 113, 114, 115, 116, 117, 118, 119, 120, 121, 122, 123, 124, 125, 126, 127] (by decide +kernel) (by decide +kernel)
set_option maxRecDepth 20000 in
theorem gX10_read_X10_fileOfText : GoodIn wsX10_read (wsV RX10 142 RX10 yX10_fileOfText wsX10_fileOfText) := goodIn_app (goodIn_of _ (by decide +kernel)) ggX10_read_X10_fileOfText
set_option maxRecDepth 20000 in
theorem ggX10_read_X10_isBroken : GoodIn wsX10_read wsX10_isBroken := goodIn_r _ [93, 12, 14, 94, 95, 96, 4, 97, 65, 66, 67, 68, 53, 54, 55, 56, 18, 57, 58, 59, 60, 61, 62, 63, 64, 19, 15, 16, 102, 103, 104, 105, 106, 107, 108, 109, 110, 111, 112, 113, 114, 115, 116, 117, 118, 119, 120, 121, 122, 123, 124, 125, 126, 127] (by decide +kernel) (by decide +kernel)
set_option maxRecDepth 20000 in
theorem gX10_read_X10_isBroken : GoodIn wsX10_read (wsV RX10 145 RX10 yX10_isBroken wsX10_isBroken) := goodIn_app (goodIn_of _ (by decide +kernel)) ggX10_read_X10_isBroken
set_option maxRecDepth 20000 in
theorem ggX10_read_X10_sizeAt : GoodIn wsX10_read wsX10_sizeAt := goodIn_r _ [97, 65, 66, 67, 4, 68, 12, 102, 103, 104, 105, 106, 107, 108, 109, 110, 111, 112, 113, 114, 115, 116, 117, 118, 119, 120, 121, 122, 123, 124, 125, 126, 127] (by decide +kernel) (by decide +kernel)
set_option maxRecDepth 20000 in
theorem gX10_read_X10_sizeAt : GoodIn wsX10_read (wsV RX10 126 RX10 yX10_sizeAt wsX10_sizeAt) := goodIn_app (goodIn_of _ (by decide +kernel)) ggX10_read_X10_sizeAt
set_option maxRecDepth 20000 in
theorem ggX10_read_X10_byteOf : GoodIn wsX10_read wsX10_byteOf := goodIn_r _ [101, 12, 73, 74, 75, 4, 76, 14, 20, 61, 62, 63, 64, 19, 15, 16, 65, 66, 67, 68, 57, 58, 59, 60, 18, 102, 103, 104, 105, 106, 107, 108, 109, 110, 111, 112, 113, 114, 115, 116, 117, 118, 119, 120, 121, 122, 123, 124, 125, 126, 127] (by decide +kernel) (by decide +kernel)
set_option maxRecDepth 20000 in
theorem gX10_read_X10_byteOf : GoodIn wsX10_read (wsV RX10 148 RX10 yX10_byteOf wsX10_byteOf) := goodIn_app (goodIn_of _ (by decide +kernel)) ggX10_read_X10_byteOf
theorem dX10_read_0 : decode cX10_read 0 = .ok (.aload_n 0, 1) := by decide +kernel
theorem dX10_read_1 : decode cX10_read 1 = .ok (.invokevirtual 142, 3) := by decide +kernel
theorem dX10_read_4 : decode cX10_read 4 = .ok (.istore_n 2, 1) := by decide +kernel
theorem dX10_read_5 : decode cX10_read 5 = .ok (.iload_n 2, 1) := by decide +kernel
theorem dX10_read_6 : decode cX10_read 6 = .ok (.ifCond .ge 5, 3) := by decide +kernel
theorem dX10_read_9 : decode cX10_read 9 = .ok (.iload_n 2, 1) := by decide +kernel
theorem dX10_read_10 : decode cX10_read 10 = .ok (.ireturn, 1) := by decide +kernel
theorem dX10_read_11 : decode cX10_read 11 = .ok (.aload_n 0, 1) := by decide +kernel
theorem dX10_read_12 : decode cX10_read 12 = .ok (.iload_n 2, 1) := by decide +kernel
theorem dX10_read_13 : decode cX10_read 13 = .ok (.invokevirtual 145, 3) := by decide +kernel
theorem dX10_read_16 : decode cX10_read 16 = .ok (.ifCond .eq 6, 3) := by decide +kernel
theorem dX10_read_19 : decode cX10_read 19 = .ok (.bipush (-9), 2) := by decide +kernel
theorem dX10_read_21 : decode cX10_read 21 = .ok (.ireturn, 1) := by decide +kernel
theorem dX10_read_22 : decode cX10_read 22 = .ok (.iload_n 1, 1) := by decide +kernel
theorem dX10_read_23 : decode cX10_read 23 = .ok (.ifCond .lt 12, 3) := by decide +kernel
theorem dX10_read_26 : decode cX10_read 26 = .ok (.iload_n 1, 1) := by decide +kernel
theorem dX10_read_27 : decode cX10_read 27 = .ok (.aload_n 0, 1) := by decide +kernel
theorem dX10_read_28 : decode cX10_read 28 = .ok (.iload_n 2, 1) := by decide +kernel
theorem dX10_read_29 : decode cX10_read 29 = .ok (.invokevirtual 126, 3) := by decide +kernel
theorem dX10_read_32 : decode cX10_read 32 = .ok (.if_icmp .lt 7, 3) := by decide +kernel
theorem dX10_read_35 : decode cX10_read 35 = .ok (.iconst (-1), 1) := by decide +kernel
theorem dX10_read_36 : decode cX10_read 36 = .ok (.goto 9, 3) := by decide +kernel
theorem dX10_read_39 : decode cX10_read 39 = .ok (.aload_n 0, 1) := by decide +kernel
theorem dX10_read_40 : decode cX10_read 40 = .ok (.iload_n 2, 1) := by decide +kernel
theorem dX10_read_41 : decode cX10_read 41 = .ok (.iload_n 1, 1) := by decide +kernel
theorem dX10_read_42 : decode cX10_read 42 = .ok (.invokevirtual 148, 3) := by decide +kernel
theorem dX10_read_45 : decode cX10_read 45 = .ok (.ireturn, 1) := by decide +kernel
set_option maxRecDepth 20000 in
theorem ggX10_list_X10_volume : GoodIn wsX10_list wsX10_volume := goodIn_r _ [13, 5, 14, 15, 16, 17, 1, 18, 19, 20, 21, 22, 23, 12, 24, 25, 26, 27, 28, 90, 91, 92, 93, 94, 95, 96, 97, 98, 99, 100, 101, 102, 103, 104, 105, 106, 107, 108, 109, 110, 111, 112, 113, 114, 115] (by decide +kernel) (by decide +kernel)
set_option maxRecDepth 20000 in
theorem gX10_list_X10_volume : GoodIn wsX10_list (wsV RX10 132 RX10 yX10_volume wsX10_volume) := goodIn_app (goodIn_of _ (by decide +kernel)) ggX10_list_X10_volume
set_option maxRecDepth 20000 in
theorem ggX10_list_X10_take : GoodIn wsX10_list wsX10_take := goodIn_r _ [32, 33, 34, 90, 91, 92, 93, 94, 95, 96, 97, 98, 99, 100, 101, 102, 103, 104, 105, 106, 107, 108, 109, 110, 111, 112, 113, 114, 115] (by decide +kernel) (by decide +kernel)
set_option maxRecDepth 20000 in
theorem gX10_list_X10_take : GoodIn wsX10_list (wsV RX10 135 RX10 yX10_take wsX10_take) := goodIn_app (goodIn_of _ (by decide +kernel)) ggX10_list_X10_take
set_option maxRecDepth 20000 in
theorem ggX10_list_X10_find : GoodIn wsX10_list wsX10_find := goodIn_r _ [38, 1, 39, 40, 5, 41, 42, 43, 12, 44, 34, 33, 45, 46, 47, 48, 49, 50, 51, 52, 53, 54, 55, 56, 18, 57, 58, 59, 60, 61, 62, 63, 64, 19, 16, 17, 65, 66, 67, 68, 69, 70, 71, 72, 15, 73, 74, 75, 76, 20, 77, 78, 79, 80, 81, 82, 83, 84, 85, 86, 87, 88, 89, 90, 91, 92, 93, 94, 95, 96, 97, 98, 99, 100, 101, 102, 103, 104, 105, 106, 107, 108, 109, 110, 111, 112, 113, 114, 115] (by decide +kernel) (by decide +kernel)
set_option maxRecDepth 20000 in
theorem gX10_list_X10_find : GoodIn wsX10_list (wsV RX10 139 RX10 yX10_find wsX10_find) := goodIn_app (goodIn_of _ (by decide +kernel)) ggX10_list_X10_find
set_option maxRecDepth 20000 in
theorem ggX10_list_X10_isDirectory : GoodIn wsX10_list wsX10_isDirectory := goodIn_r _ [89, 5, 90, 91, 92, 93, 94, 95, 96, 97, 98, 99, 100, 101, 102, 103, 104, 105, 106, 107, 108, 109, 110, 111, 112, 113, 114, 115] (by decide +kernel) (by decide +kernel)
set_option maxRecDepth 20000 in
theorem gX10_list_X10_isDirectory : GoodIn wsX10_list (wsV RX10 123 RX10 yX10_isDirectory wsX10_isDirectory) := goodIn_app (goodIn_of _ (by decide +kernel)) ggX10_list_X10_isDirectory
set_option maxRecDepth 20000 in
theorem ggX10_list_X10_chain : GoodIn wsX10_list wsX10_chain := goodIn_r _ [56, 18, 57, 58, 59, 12, 60, 61, 62, 63, 64, 19, 16, 17, 65, 66, 67, 68, 5, 90, 91, 92, 93, 94, 95, 96, 97, 98, 99, 100, 101, 102, 103, 104, 105, 106, 107, 108, 109, 110, 111, 112, 113, 114, 115] (by decide +kernel) (by decide +kernel)
set_option maxRecDepth 20000 in
theorem gX10_list_X10_chain : GoodIn wsX10_list (wsV RX10 94 RX10 yX10_chain wsX10_chain) := goodIn_app (goodIn_of _ (by decide +kernel)) ggX10_list_X10_chain
set_option maxRecDepth 20000 in
theorem ggX10_list_X10_nth : GoodIn wsX10_list wsX10_nth := goodIn_r _ [72, 15, 5, 73, 74, 75, 12, 76, 20, 61, 62, 63, 64, 19, 16, 17, 65, 66, 67, 68, 57, 58, 59, 60, 18, 90, 91, 92, 93, 94, 95, 96, 97, 98, 99, 100, 101, 102, 103, 104, 105, 106, 107, 108, 109, 110, 111, 112, 113, 114, 115] (by decide +kernel) (by decide +kernel)
set_option maxRecDepth 20000 in
theorem gX10_list_X10_nth : GoodIn wsX10_list (wsV RX10 97 RX10 yX10_nth wsX10_nth) := goodIn_app (goodIn_of _ (by decide +kernel)) ggX10_list_X10_nth
set_option maxRecDepth 20000 in
theorem ggX10_list_X10_isPassed : GoodIn wsX10_list wsX10_isPassed := goodIn_r _ [80, 5, 90, 91, 92, 93, 94, 95, 96, 97, 98, 99, 100, 101, 102, 103, 104, 105, 106, 107, 108, 109, 110, 111, 112, 113, 114, 115] (by decide +kernel) (by decide +kernel)
set_option maxRecDepth 20000 in
theorem gX10_list_X10_isPassed : GoodIn wsX10_list (wsV RX10 101 RX10 yX10_isPassed wsX10_isPassed) := goodIn_app (goodIn_of _ (by decide +kernel)) ggX10_list_X10_isPassed
set_option maxRecDepth 20000 in
theorem ggX10_list_X10_four : GoodIn wsX10_list wsX10_four := goodIn_r _ [84, 85, 65, 66, 67, 12, 68, 5, 90, 91, 92, 93, 94, 95, 96, 97, 98, 99, 100, 101, 102, 103, 104, 105, 106, 107, 108, 109, 110, 111, 112, 113, 114, 115] (by decide +kernel) (by decide +kernel)
set_option maxRecDepth 20000 in
theorem gX10_list_X10_four : GoodIn wsX10_list (wsV RX10 104 RX10 yX10_four wsX10_four) := goodIn_app (goodIn_of _ (by decide +kernel)) ggX10_list_X10_four
theorem dX10_list_0 : decode cX10_list 0 = .ok (.aload_n 0, 1) := by decide +kernel
theorem dX10_list_1 : decode cX10_list 1 = .ok (.invokevirtual 132, 3) := by decide +kernel
theorem dX10_list_4 : decode cX10_list 4 = .ok (.istore_n 2, 1) := by decide +kernel
theorem dX10_list_5 : decode cX10_list 5 = .ok (.iload_n 2, 1) := by decide +kernel
theorem dX10_list_6 : decode cX10_list 6 = .ok (.ifCond .ge 6, 3) := by decide +kernel
theorem dX10_list_9 : decode cX10_list 9 = .ok (.iload_n 2, 1) := by decide +kernel
theorem dX10_list_10 : decode cX10_list 10 = .ok (.i2l, 1) := by decide +kernel
theorem dX10_list_11 : decode cX10_list 11 = .ok (.lreturn, 1) := by decide +kernel
theorem dX10_list_12 : decode cX10_list 12 = .ok (.aload_n 0, 1) := by decide +kernel
theorem dX10_list_13 : decode cX10_list 13 = .ok (.getfield 72, 3) := by decide +kernel
theorem dX10_list_16 : decode cX10_list 16 = .ok (.istore_n 3, 1) := by decide +kernel
theorem dX10_list_17 : decode cX10_list 17 = .ok (.aload_n 0, 1) := by decide +kernel
theorem dX10_list_18 : decode cX10_list 18 = .ok (.getfield 129, 3) := by decide +kernel
theorem dX10_list_21 : decode cX10_list 21 = .ok (.ifCond .le 53, 3) := by decide +kernel
theorem dX10_list_24 : decode cX10_list 24 = .ok (.aload_n 0, 1) := by decide +kernel
theorem dX10_list_25 : decode cX10_list 25 = .ok (.aload_n 0, 1) := by decide +kernel
theorem dX10_list_26 : decode cX10_list 26 = .ok (.getfield 20, 3) := by decide +kernel
theorem dX10_list_29 : decode cX10_list 29 = .ok (.aload_n 0, 1) := by decide +kernel
theorem dX10_list_30 : decode cX10_list 30 = .ok (.getfield 129, 3) := by decide +kernel
theorem dX10_list_33 : decode cX10_list 33 = .ok (.invokevirtual 135, 3) := by decide +kernel
theorem dX10_list_36 : decode cX10_list 36 = .ok (.aload_n 0, 1) := by decide +kernel
theorem dX10_list_37 : decode cX10_list 37 = .ok (.invokevirtual 139, 3) := by decide +kernel
theorem dX10_list_40 : decode cX10_list 40 = .ok (.istore 4, 2) := by decide +kernel
theorem dX10_list_42 : decode cX10_list 42 = .ok (.iload 4, 2) := by decide +kernel
theorem dX10_list_44 : decode cX10_list 44 = .ok (.ifCond .ge 7, 3) := by decide +kernel
theorem dX10_list_47 : decode cX10_list 47 = .ok (.iload 4, 2) := by decide +kernel
theorem dX10_list_49 : decode cX10_list 49 = .ok (.i2l, 1) := by decide +kernel
theorem dX10_list_50 : decode cX10_list 50 = .ok (.lreturn, 1) := by decide +kernel
theorem dX10_list_51 : decode cX10_list 51 = .ok (.aload_n 0, 1) := by decide +kernel
theorem dX10_list_52 : decode cX10_list 52 = .ok (.iload 4, 2) := by decide +kernel
theorem dX10_list_54 : decode cX10_list 54 = .ok (.invokevirtual 123, 3) := by decide +kernel
theorem dX10_list_57 : decode cX10_list 57 = .ok (.ifCond .ne 7, 3) := by decide +kernel
theorem dX10_list_60 : decode cX10_list 60 = .ok (.ldc2_w 151, 3) := by decide +kernel
theorem dX10_list_63 : decode cX10_list 63 = .ok (.lreturn, 1) := by decide +kernel
theorem dX10_list_64 : decode cX10_list 64 = .ok (.aload_n 0, 1) := by decide +kernel
theorem dX10_list_65 : decode cX10_list 65 = .ok (.getfield 7, 3) := by decide +kernel
theorem dX10_list_68 : decode cX10_list 68 = .ok (.iload 4, 2) := by decide +kernel
theorem dX10_list_70 : decode cX10_list 70 = .ok (.iconst 5, 1) := by decide +kernel
theorem dX10_list_71 : decode cX10_list 71 = .ok (.iadd, 1) := by decide +kernel
theorem dX10_list_72 : decode cX10_list 72 = .ok (.iaload, 1) := by decide +kernel
theorem dX10_list_73 : decode cX10_list 73 = .ok (.istore_n 3, 1) := by decide +kernel
theorem dX10_list_74 : decode cX10_list 74 = .ok (.aload_n 0, 1) := by decide +kernel
theorem dX10_list_75 : decode cX10_list 75 = .ok (.iload_n 3, 1) := by decide +kernel
theorem dX10_list_76 : decode cX10_list 76 = .ok (.invokevirtual 94, 3) := by decide +kernel
theorem dX10_list_79 : decode cX10_list 79 = .ok (.istore 4, 2) := by decide +kernel
theorem dX10_list_81 : decode cX10_list 81 = .ok (.iload 4, 2) := by decide +kernel
theorem dX10_list_83 : decode cX10_list 83 = .ok (.ifCond .ge 7, 3) := by decide +kernel
theorem dX10_list_86 : decode cX10_list 86 = .ok (.ldc2_w 153, 3) := by decide +kernel
theorem dX10_list_89 : decode cX10_list 89 = .ok (.lreturn, 1) := by decide +kernel
theorem dX10_list_90 : decode cX10_list 90 = .ok (.iload_n 1, 1) := by decide +kernel
theorem dX10_list_91 : decode cX10_list 91 = .ok (.istore 5, 2) := by decide +kernel
theorem dX10_list_93 : decode cX10_list 93 = .ok (.aload_n 0, 1) := by decide +kernel
theorem dX10_list_94 : decode cX10_list 94 = .ok (.iload_n 3, 1) := by decide +kernel
theorem dX10_list_95 : decode cX10_list 95 = .ok (.iload 4, 2) := by decide +kernel
theorem dX10_list_97 : decode cX10_list 97 = .ok (.iconst 0, 1) := by decide +kernel
theorem dX10_list_98 : decode cX10_list 98 = .ok (.invokevirtual 97, 3) := by decide +kernel
theorem dX10_list_101 : decode cX10_list 101 = .ok (.istore 6, 2) := by decide +kernel
theorem dX10_list_103 : decode cX10_list 103 = .ok (.iconst 1, 1) := by decide +kernel
theorem dX10_list_104 : decode cX10_list 104 = .ok (.istore 7, 2) := by decide +kernel
theorem dX10_list_106 : decode cX10_list 106 = .ok (.iload 6, 2) := by decide +kernel
theorem dX10_list_108 : decode cX10_list 108 = .ok (.ifCond .lt 53, 3) := by decide +kernel
theorem dX10_list_111 : decode cX10_list 111 = .ok (.iload_n 1, 1) := by decide +kernel
theorem dX10_list_112 : decode cX10_list 112 = .ok (.ifCond .lt 49, 3) := by decide +kernel
theorem dX10_list_115 : decode cX10_list 115 = .ok (.aload_n 0, 1) := by decide +kernel
theorem dX10_list_116 : decode cX10_list 116 = .ok (.iload 6, 2) := by decide +kernel
theorem dX10_list_118 : decode cX10_list 118 = .ok (.invokevirtual 101, 3) := by decide +kernel
theorem dX10_list_121 : decode cX10_list 121 = .ok (.ifCond .ne 23, 3) := by decide +kernel
theorem dX10_list_124 : decode cX10_list 124 = .ok (.iload 5, 2) := by decide +kernel
theorem dX10_list_126 : decode cX10_list 126 = .ok (.ifCond .ne 15, 3) := by decide +kernel
theorem dX10_list_129 : decode cX10_list 129 = .ok (.aload_n 0, 1) := by decide +kernel
theorem dX10_list_130 : decode cX10_list 130 = .ok (.iload 6, 2) := by decide +kernel
theorem dX10_list_132 : decode cX10_list 132 = .ok (.invokevirtual 104, 3) := by decide +kernel
theorem dX10_list_135 : decode cX10_list 135 = .ok (.i2l, 1) := by decide +kernel
theorem dX10_list_136 : decode cX10_list 136 = .ok (.ldc2_w 155, 3) := by decide +kernel
theorem dX10_list_139 : decode cX10_list 139 = .ok (.land, 1) := by decide +kernel
theorem dX10_list_140 : decode cX10_list 140 = .ok (.lreturn, 1) := by decide +kernel
theorem dX10_list_141 : decode cX10_list 141 = .ok (.iinc 5 (-1), 3) := by decide +kernel
theorem dX10_list_144 : decode cX10_list 144 = .ok (.aload_n 0, 1) := by decide +kernel
theorem dX10_list_145 : decode cX10_list 145 = .ok (.iload_n 3, 1) := by decide +kernel
theorem dX10_list_146 : decode cX10_list 146 = .ok (.iload 4, 2) := by decide +kernel
theorem dX10_list_148 : decode cX10_list 148 = .ok (.iload 7, 2) := by decide +kernel
theorem dX10_list_150 : decode cX10_list 150 = .ok (.invokevirtual 97, 3) := by decide +kernel
theorem dX10_list_153 : decode cX10_list 153 = .ok (.istore 6, 2) := by decide +kernel
theorem dX10_list_155 : decode cX10_list 155 = .ok (.iinc 7 1, 3) := by decide +kernel
theorem dX10_list_158 : decode cX10_list 158 = .ok (.goto (-52), 3) := by decide +kernel
theorem dX10_list_161 : decode cX10_list 161 = .ok (.ldc2_w 157, 3) := by decide +kernel
theorem dX10_list_164 : decode cX10_list 164 = .ok (.lreturn, 1) := by decide +kernel
set_option maxRecDepth 20000 in
theorem ggX10_survey_X10_volume : GoodIn wsX10_survey wsX10_volume := goodIn_r _ [10, 5, 11, 12, 13, 14, 2, 15, 16, 17, 18, 19, 20, 9, 21, 22, 23, 24, 25, 58, 59, 60, 61, 62, 63, 64, 65, 66, 67, 68, 69, 70, 71, 72, 73, 74, 75, 76, 77, 78, 79, 80, 81, 82, 83] (by decide +kernel) (by decide +kernel)
set_option maxRecDepth 20000 in
theorem gX10_survey_X10_volume : GoodIn wsX10_survey (wsV RX10 132 RX10 yX10_volume wsX10_volume) := goodIn_app (goodIn_of _ (by decide +kernel)) ggX10_survey_X10_volume
set_option maxRecDepth 20000 in
theorem ggX10_survey_X10_chain : GoodIn wsX10_survey wsX10_chain := goodIn_r _ [29, 15, 30, 31, 32, 9, 33, 34, 35, 36, 37, 16, 13, 14, 38, 39, 40, 41, 5, 58, 59, 60, 61, 62, 63, 64, 65, 66, 67, 68, 69, 70, 71, 72, 73, 74, 75, 76, 77, 78, 79, 80, 81, 82, 83] (by decide +kernel) (by decide +kernel)
set_option maxRecDepth 20000 in
theorem gX10_survey_X10_chain : GoodIn wsX10_survey (wsV RX10 94 RX10 yX10_chain wsX10_chain) := goodIn_app (goodIn_of _ (by decide +kernel)) ggX10_survey_X10_chain
set_option maxRecDepth 20000 in
theorem ggX10_survey_X10_nth : GoodIn wsX10_survey wsX10_nth := goodIn_r _ [45, 12, 5, 46, 47, 48, 9, 49, 17, 34, 35, 36, 37, 16, 13, 14, 38, 39, 40, 41, 30, 31, 32, 33, 15, 58, 59, 60, 61, 62, 63, 64, 65, 66, 67, 68, 69, 70, 71, 72, 73, 74, 75, 76, 77, 78, 79, 80, 81, 82, 83] (by decide +kernel) (by decide +kernel)
set_option maxRecDepth 20000 in
theorem gX10_survey_X10_nth : GoodIn wsX10_survey (wsV RX10 97 RX10 yX10_nth wsX10_nth) := goodIn_app (goodIn_of _ (by decide +kernel)) ggX10_survey_X10_nth
set_option maxRecDepth 20000 in
theorem ggX10_survey_X10_isPassed : GoodIn wsX10_survey wsX10_isPassed := goodIn_r _ [53, 5, 58, 59, 60, 61, 62, 63, 64, 65, 66, 67, 68, 69, 70, 71, 72, 73, 74, 75, 76, 77, 78, 79, 80, 81, 82, 83] (by decide +kernel) (by decide +kernel)
set_option maxRecDepth 20000 in
theorem gX10_survey_X10_isPassed : GoodIn wsX10_survey (wsV RX10 101 RX10 yX10_isPassed wsX10_isPassed) := goodIn_app (goodIn_of _ (by decide +kernel)) ggX10_survey_X10_isPassed
set_option maxRecDepth 20000 in
theorem ggX10_survey_X10_isDirectory : GoodIn wsX10_survey wsX10_isDirectory := goodIn_r _ [57, 5, 58, 59, 60, 61, 62, 63, 64, 65, 66, 67, 68, 69, 70, 71, 72, 73, 74, 75, 76, 77, 78, 79, 80, 81, 82, 83] (by decide +kernel) (by decide +kernel)
set_option maxRecDepth 20000 in
theorem gX10_survey_X10_isDirectory : GoodIn wsX10_survey (wsV RX10 123 RX10 yX10_isDirectory wsX10_isDirectory) := goodIn_app (goodIn_of _ (by decide +kernel)) ggX10_survey_X10_isDirectory
theorem dX10_survey_0 : decode cX10_survey 0 = .ok (.aload_n 0, 1) := by decide +kernel
theorem dX10_survey_1 : decode cX10_survey 1 = .ok (.invokevirtual 132, 3) := by decide +kernel
theorem dX10_survey_4 : decode cX10_survey 4 = .ok (.istore_n 1, 1) := by decide +kernel
theorem dX10_survey_5 : decode cX10_survey 5 = .ok (.iload_n 1, 1) := by decide +kernel
theorem dX10_survey_6 : decode cX10_survey 6 = .ok (.ifCond .ge 5, 3) := by decide +kernel
theorem dX10_survey_9 : decode cX10_survey 9 = .ok (.iload_n 1, 1) := by decide +kernel
theorem dX10_survey_10 : decode cX10_survey 10 = .ok (.ireturn, 1) := by decide +kernel
theorem dX10_survey_11 : decode cX10_survey 11 = .ok (.iconst 0, 1) := by decide +kernel
theorem dX10_survey_12 : decode cX10_survey 12 = .ok (.istore_n 2, 1) := by decide +kernel
theorem dX10_survey_13 : decode cX10_survey 13 = .ok (.iconst 0, 1) := by decide +kernel
theorem dX10_survey_14 : decode cX10_survey 14 = .ok (.istore_n 3, 1) := by decide +kernel
theorem dX10_survey_15 : decode cX10_survey 15 = .ok (.iconst 0, 1) := by decide +kernel
theorem dX10_survey_16 : decode cX10_survey 16 = .ok (.istore 4, 2) := by decide +kernel
theorem dX10_survey_18 : decode cX10_survey 18 = .ok (.iconst 0, 1) := by decide +kernel
theorem dX10_survey_19 : decode cX10_survey 19 = .ok (.istore 5, 2) := by decide +kernel
theorem dX10_survey_21 : decode cX10_survey 21 = .ok (.aload_n 0, 1) := by decide +kernel
theorem dX10_survey_22 : decode cX10_survey 22 = .ok (.getfield 38, 3) := by decide +kernel
theorem dX10_survey_25 : decode cX10_survey 25 = .ok (.iconst 0, 1) := by decide +kernel
theorem dX10_survey_26 : decode cX10_survey 26 = .ok (.aload_n 0, 1) := by decide +kernel
theorem dX10_survey_27 : decode cX10_survey 27 = .ok (.getfield 72, 3) := by decide +kernel
theorem dX10_survey_30 : decode cX10_survey 30 = .ok (.iastore, 1) := by decide +kernel
theorem dX10_survey_31 : decode cX10_survey 31 = .ok (.aload_n 0, 1) := by decide +kernel
theorem dX10_survey_32 : decode cX10_survey 32 = .ok (.getfield 41, 3) := by decide +kernel
theorem dX10_survey_35 : decode cX10_survey 35 = .ok (.iconst 0, 1) := by decide +kernel
theorem dX10_survey_36 : decode cX10_survey 36 = .ok (.aload_n 0, 1) := by decide +kernel
theorem dX10_survey_37 : decode cX10_survey 37 = .ok (.aload_n 0, 1) := by decide +kernel
theorem dX10_survey_38 : decode cX10_survey 38 = .ok (.getfield 72, 3) := by decide +kernel
theorem dX10_survey_41 : decode cX10_survey 41 = .ok (.invokevirtual 94, 3) := by decide +kernel
theorem dX10_survey_44 : decode cX10_survey 44 = .ok (.iastore, 1) := by decide +kernel
theorem dX10_survey_45 : decode cX10_survey 45 = .ok (.aload_n 0, 1) := by decide +kernel
theorem dX10_survey_46 : decode cX10_survey 46 = .ok (.getfield 44, 3) := by decide +kernel
theorem dX10_survey_49 : decode cX10_survey 49 = .ok (.iconst 0, 1) := by decide +kernel
theorem dX10_survey_50 : decode cX10_survey 50 = .ok (.iconst 0, 1) := by decide +kernel
theorem dX10_survey_51 : decode cX10_survey 51 = .ok (.iastore, 1) := by decide +kernel
theorem dX10_survey_52 : decode cX10_survey 52 = .ok (.aload_n 0, 1) := by decide +kernel
theorem dX10_survey_53 : decode cX10_survey 53 = .ok (.getfield 41, 3) := by decide +kernel
theorem dX10_survey_56 : decode cX10_survey 56 = .ok (.iconst 0, 1) := by decide +kernel
theorem dX10_survey_57 : decode cX10_survey 57 = .ok (.iaload, 1) := by decide +kernel
theorem dX10_survey_58 : decode cX10_survey 58 = .ok (.ifCond .ge 6, 3) := by decide +kernel
theorem dX10_survey_61 : decode cX10_survey 61 = .ok (.bipush (-9), 2) := by decide +kernel
theorem dX10_survey_63 : decode cX10_survey 63 = .ok (.ireturn, 1) := by decide +kernel
theorem dX10_survey_64 : decode cX10_survey 64 = .ok (.iload_n 2, 1) := by decide +kernel
theorem dX10_survey_65 : decode cX10_survey 65 = .ok (.ifCond .lt 166, 3) := by decide +kernel
theorem dX10_survey_68 : decode cX10_survey 68 = .ok (.aload_n 0, 1) := by decide +kernel
theorem dX10_survey_69 : decode cX10_survey 69 = .ok (.aload_n 0, 1) := by decide +kernel
theorem dX10_survey_70 : decode cX10_survey 70 = .ok (.getfield 38, 3) := by decide +kernel
theorem dX10_survey_73 : decode cX10_survey 73 = .ok (.iload_n 2, 1) := by decide +kernel
theorem dX10_survey_74 : decode cX10_survey 74 = .ok (.iaload, 1) := by decide +kernel
theorem dX10_survey_75 : decode cX10_survey 75 = .ok (.aload_n 0, 1) := by decide +kernel
theorem dX10_survey_76 : decode cX10_survey 76 = .ok (.getfield 41, 3) := by decide +kernel
theorem dX10_survey_79 : decode cX10_survey 79 = .ok (.iload_n 2, 1) := by decide +kernel
theorem dX10_survey_80 : decode cX10_survey 80 = .ok (.iaload, 1) := by decide +kernel
theorem dX10_survey_81 : decode cX10_survey 81 = .ok (.aload_n 0, 1) := by decide +kernel
theorem dX10_survey_82 : decode cX10_survey 82 = .ok (.getfield 44, 3) := by decide +kernel
theorem dX10_survey_85 : decode cX10_survey 85 = .ok (.iload_n 2, 1) := by decide +kernel
theorem dX10_survey_86 : decode cX10_survey 86 = .ok (.iaload, 1) := by decide +kernel
theorem dX10_survey_87 : decode cX10_survey 87 = .ok (.invokevirtual 97, 3) := by decide +kernel
theorem dX10_survey_90 : decode cX10_survey 90 = .ok (.istore 6, 2) := by decide +kernel
theorem dX10_survey_92 : decode cX10_survey 92 = .ok (.aload_n 0, 1) := by decide +kernel
theorem dX10_survey_93 : decode cX10_survey 93 = .ok (.getfield 44, 3) := by decide +kernel
theorem dX10_survey_96 : decode cX10_survey 96 = .ok (.iload_n 2, 1) := by decide +kernel
theorem dX10_survey_97 : decode cX10_survey 97 = .ok (.aload_n 0, 1) := by decide +kernel
theorem dX10_survey_98 : decode cX10_survey 98 = .ok (.getfield 44, 3) := by decide +kernel
theorem dX10_survey_101 : decode cX10_survey 101 = .ok (.iload_n 2, 1) := by decide +kernel
theorem dX10_survey_102 : decode cX10_survey 102 = .ok (.iaload, 1) := by decide +kernel
theorem dX10_survey_103 : decode cX10_survey 103 = .ok (.iconst 1, 1) := by decide +kernel
theorem dX10_survey_104 : decode cX10_survey 104 = .ok (.iadd, 1) := by decide +kernel
theorem dX10_survey_105 : decode cX10_survey 105 = .ok (.iastore, 1) := by decide +kernel
theorem dX10_survey_106 : decode cX10_survey 106 = .ok (.iload 6, 2) := by decide +kernel
theorem dX10_survey_108 : decode cX10_survey 108 = .ok (.ifCond .ge 9, 3) := by decide +kernel
theorem dX10_survey_111 : decode cX10_survey 111 = .ok (.iinc 2 (-1), 3) := by decide +kernel
theorem dX10_survey_114 : decode cX10_survey 114 = .ok (.goto 114, 3) := by decide +kernel
theorem dX10_survey_117 : decode cX10_survey 117 = .ok (.aload_n 0, 1) := by decide +kernel
theorem dX10_survey_118 : decode cX10_survey 118 = .ok (.iload 6, 2) := by decide +kernel
theorem dX10_survey_120 : decode cX10_survey 120 = .ok (.invokevirtual 101, 3) := by decide +kernel
theorem dX10_survey_123 : decode cX10_survey 123 = .ok (.ifCond .ne 105, 3) := by decide +kernel
theorem dX10_survey_126 : decode cX10_survey 126 = .ok (.iinc 3 1, 3) := by decide +kernel
theorem dX10_survey_129 : decode cX10_survey 129 = .ok (.iload_n 3, 1) := by decide +kernel
theorem dX10_survey_130 : decode cX10_survey 130 = .ok (.sipush 250, 3) := by decide +kernel
theorem dX10_survey_133 : decode cX10_survey 133 = .ok (.if_icmp .le 6, 3) := by decide +kernel
theorem dX10_survey_136 : decode cX10_survey 136 = .ok (.bipush (-14), 2) := by decide +kernel
theorem dX10_survey_138 : decode cX10_survey 138 = .ok (.ireturn, 1) := by decide +kernel
theorem dX10_survey_139 : decode cX10_survey 139 = .ok (.aload_n 0, 1) := by decide +kernel
theorem dX10_survey_140 : decode cX10_survey 140 = .ok (.iload 6, 2) := by decide +kernel
theorem dX10_survey_142 : decode cX10_survey 142 = .ok (.invokevirtual 123, 3) := by decide +kernel
theorem dX10_survey_145 : decode cX10_survey 145 = .ok (.ifCond .ne 9, 3) := by decide +kernel
theorem dX10_survey_148 : decode cX10_survey 148 = .ok (.iinc 4 1, 3) := by decide +kernel
theorem dX10_survey_151 : decode cX10_survey 151 = .ok (.goto 77, 3) := by decide +kernel
theorem dX10_survey_154 : decode cX10_survey 154 = .ok (.aload_n 0, 1) := by decide +kernel
theorem dX10_survey_155 : decode cX10_survey 155 = .ok (.aload_n 0, 1) := by decide +kernel
theorem dX10_survey_156 : decode cX10_survey 156 = .ok (.getfield 7, 3) := by decide +kernel
theorem dX10_survey_159 : decode cX10_survey 159 = .ok (.iload 6, 2) := by decide +kernel
theorem dX10_survey_161 : decode cX10_survey 161 = .ok (.iconst 5, 1) := by decide +kernel
theorem dX10_survey_162 : decode cX10_survey 162 = .ok (.iadd, 1) := by decide +kernel
theorem dX10_survey_163 : decode cX10_survey 163 = .ok (.iaload, 1) := by decide +kernel
theorem dX10_survey_164 : decode cX10_survey 164 = .ok (.invokevirtual 94, 3) := by decide +kernel
theorem dX10_survey_167 : decode cX10_survey 167 = .ok (.istore 7, 2) := by decide +kernel
theorem dX10_survey_169 : decode cX10_survey 169 = .ok (.iload_n 2, 1) := by decide +kernel
theorem dX10_survey_170 : decode cX10_survey 170 = .ok (.iconst 4, 1) := by decide +kernel
theorem dX10_survey_171 : decode cX10_survey 171 = .ok (.if_icmp .eq 8, 3) := by decide +kernel
theorem dX10_survey_174 : decode cX10_survey 174 = .ok (.iload 7, 2) := by decide +kernel
theorem dX10_survey_176 : decode cX10_survey 176 = .ok (.ifCond .ge 16, 3) := by decide +kernel
theorem dX10_survey_179 : decode cX10_survey 179 = .ok (.iload_n 2, 1) := by decide +kernel
theorem dX10_survey_180 : decode cX10_survey 180 = .ok (.iconst 4, 1) := by decide +kernel
theorem dX10_survey_181 : decode cX10_survey 181 = .ok (.if_icmp .ne 8, 3) := by decide +kernel
theorem dX10_survey_184 : decode cX10_survey 184 = .ok (.bipush (-13), 2) := by decide +kernel
theorem dX10_survey_186 : decode cX10_survey 186 = .ok (.goto 5, 3) := by decide +kernel
theorem dX10_survey_189 : decode cX10_survey 189 = .ok (.bipush (-9), 2) := by decide +kernel
theorem dX10_survey_191 : decode cX10_survey 191 = .ok (.ireturn, 1) := by decide +kernel
theorem dX10_survey_192 : decode cX10_survey 192 = .ok (.iinc 5 1, 3) := by decide +kernel
theorem dX10_survey_195 : decode cX10_survey 195 = .ok (.iinc 2 1, 3) := by decide +kernel
theorem dX10_survey_198 : decode cX10_survey 198 = .ok (.aload_n 0, 1) := by decide +kernel
theorem dX10_survey_199 : decode cX10_survey 199 = .ok (.getfield 38, 3) := by decide +kernel
theorem dX10_survey_202 : decode cX10_survey 202 = .ok (.iload_n 2, 1) := by decide +kernel
theorem dX10_survey_203 : decode cX10_survey 203 = .ok (.aload_n 0, 1) := by decide +kernel
theorem dX10_survey_204 : decode cX10_survey 204 = .ok (.getfield 7, 3) := by decide +kernel
theorem dX10_survey_207 : decode cX10_survey 207 = .ok (.iload 6, 2) := by decide +kernel
theorem dX10_survey_209 : decode cX10_survey 209 = .ok (.iconst 5, 1) := by decide +kernel
theorem dX10_survey_210 : decode cX10_survey 210 = .ok (.iadd, 1) := by decide +kernel
theorem dX10_survey_211 : decode cX10_survey 211 = .ok (.iaload, 1) := by decide +kernel
theorem dX10_survey_212 : decode cX10_survey 212 = .ok (.iastore, 1) := by decide +kernel
theorem dX10_survey_213 : decode cX10_survey 213 = .ok (.aload_n 0, 1) := by decide +kernel
theorem dX10_survey_214 : decode cX10_survey 214 = .ok (.getfield 41, 3) := by decide +kernel
theorem dX10_survey_217 : decode cX10_survey 217 = .ok (.iload_n 2, 1) := by decide +kernel
theorem dX10_survey_218 : decode cX10_survey 218 = .ok (.iload 7, 2) := by decide +kernel
theorem dX10_survey_220 : decode cX10_survey 220 = .ok (.iastore, 1) := by decide +kernel
theorem dX10_survey_221 : decode cX10_survey 221 = .ok (.aload_n 0, 1) := by decide +kernel
theorem dX10_survey_222 : decode cX10_survey 222 = .ok (.getfield 44, 3) := by decide +kernel
theorem dX10_survey_225 : decode cX10_survey 225 = .ok (.iload_n 2, 1) := by decide +kernel
theorem dX10_survey_226 : decode cX10_survey 226 = .ok (.iconst 0, 1) := by decide +kernel
theorem dX10_survey_227 : decode cX10_survey 227 = .ok (.iastore, 1) := by decide +kernel
theorem dX10_survey_228 : decode cX10_survey 228 = .ok (.goto (-164), 3) := by decide +kernel
theorem dX10_survey_231 : decode cX10_survey 231 = .ok (.iload 4, 2) := by decide +kernel
theorem dX10_survey_233 : decode cX10_survey 233 = .ok (.sipush 1000, 3) := by decide +kernel
theorem dX10_survey_236 : decode cX10_survey 236 = .ok (.iload 5, 2) := by decide +kernel
theorem dX10_survey_238 : decode cX10_survey 238 = .ok (.imul, 1) := by decide +kernel
theorem dX10_survey_239 : decode cX10_survey 239 = .ok (.iadd, 1) := by decide +kernel
theorem dX10_survey_240 : decode cX10_survey 240 = .ok (.ireturn, 1) := by decide +kernel
set_option maxRecDepth 20000 in
theorem ggX10_line_X10_byteOf : GoodIn wsX10_line wsX10_byteOf := goodIn_r _ [11, 12, 13, 14, 15, 10, 16, 17, 18, 19, 20, 21, 22, 23, 24, 25, 26, 27, 28, 29, 30, 31, 32, 33, 34, 35, 36, 37, 38, 39, 40, 41, 42, 43, 44, 45, 46, 47, 48, 49, 50, 51, 52, 53, 54, 55, 56, 57, 58, 59, 60] (by decide +kernel) (by decide +kernel)
set_option maxRecDepth 20000 in
theorem gX10_line_X10_byteOf : GoodIn wsX10_line (wsV RX10 148 RX10 yX10_byteOf wsX10_byteOf) := goodIn_app (goodIn_of _ (by decide +kernel)) ggX10_line_X10_byteOf
theorem dX10_line_0 : decode cX10_line 0 = .ok (.iload_n 2, 1) := by decide +kernel
theorem dX10_line_1 : decode cX10_line 1 = .ok (.iload_n 3, 1) := by decide +kernel
theorem dX10_line_2 : decode cX10_line 2 = .ok (.if_icmp .ne 5, 3) := by decide +kernel
theorem dX10_line_5 : decode cX10_line 5 = .ok (.iconst 1, 1) := by decide +kernel
theorem dX10_line_6 : decode cX10_line 6 = .ok (.ireturn, 1) := by decide +kernel
theorem dX10_line_7 : decode cX10_line 7 = .ok (.aload_n 0, 1) := by decide +kernel
theorem dX10_line_8 : decode cX10_line 8 = .ok (.iload_n 1, 1) := by decide +kernel
theorem dX10_line_9 : decode cX10_line 9 = .ok (.iload_n 2, 1) := by decide +kernel
theorem dX10_line_10 : decode cX10_line 10 = .ok (.invokevirtual 148, 3) := by decide +kernel
theorem dX10_line_13 : decode cX10_line 13 = .ok (.istore 4, 2) := by decide +kernel
theorem dX10_line_15 : decode cX10_line 15 = .ok (.iload 4, 2) := by decide +kernel
theorem dX10_line_17 : decode cX10_line 17 = .ok (.bipush 35, 2) := by decide +kernel
theorem dX10_line_19 : decode cX10_line 19 = .ok (.if_icmp .ne 5, 3) := by decide +kernel
theorem dX10_line_22 : decode cX10_line 22 = .ok (.iconst 1, 1) := by decide +kernel
theorem dX10_line_23 : decode cX10_line 23 = .ok (.ireturn, 1) := by decide +kernel
theorem dX10_line_24 : decode cX10_line 24 = .ok (.iload_n 3, 1) := by decide +kernel
theorem dX10_line_25 : decode cX10_line 25 = .ok (.iload_n 2, 1) := by decide +kernel
theorem dX10_line_26 : decode cX10_line 26 = .ok (.isub, 1) := by decide +kernel
theorem dX10_line_27 : decode cX10_line 27 = .ok (.iconst 2, 1) := by decide +kernel
theorem dX10_line_28 : decode cX10_line 28 = .ok (.if_icmp .lt 16, 3) := by decide +kernel
theorem dX10_line_31 : decode cX10_line 31 = .ok (.aload_n 0, 1) := by decide +kernel
theorem dX10_line_32 : decode cX10_line 32 = .ok (.iload_n 1, 1) := by decide +kernel
theorem dX10_line_33 : decode cX10_line 33 = .ok (.iload_n 2, 1) := by decide +kernel
theorem dX10_line_34 : decode cX10_line 34 = .ok (.iconst 1, 1) := by decide +kernel
theorem dX10_line_35 : decode cX10_line 35 = .ok (.iadd, 1) := by decide +kernel
theorem dX10_line_36 : decode cX10_line 36 = .ok (.invokevirtual 148, 3) := by decide +kernel
theorem dX10_line_39 : decode cX10_line 39 = .ok (.bipush 61, 2) := by decide +kernel
theorem dX10_line_41 : decode cX10_line 41 = .ok (.if_icmp .eq 5, 3) := by decide +kernel
theorem dX10_line_44 : decode cX10_line 44 = .ok (.iconst 0, 1) := by decide +kernel
theorem dX10_line_45 : decode cX10_line 45 = .ok (.ireturn, 1) := by decide +kernel
theorem dX10_line_46 : decode cX10_line 46 = .ok (.iload_n 3, 1) := by decide +kernel
theorem dX10_line_47 : decode cX10_line 47 = .ok (.iload_n 2, 1) := by decide +kernel
theorem dX10_line_48 : decode cX10_line 48 = .ok (.isub, 1) := by decide +kernel
theorem dX10_line_49 : decode cX10_line 49 = .ok (.iconst 2, 1) := by decide +kernel
theorem dX10_line_50 : decode cX10_line 50 = .ok (.isub, 1) := by decide +kernel
theorem dX10_line_51 : decode cX10_line 51 = .ok (.istore 5, 2) := by decide +kernel
theorem dX10_line_53 : decode cX10_line 53 = .ok (.iload 4, 2) := by decide +kernel
theorem dX10_line_55 : decode cX10_line 55 = .ok (.bipush 65, 2) := by decide +kernel
theorem dX10_line_57 : decode cX10_line 57 = .ok (.if_icmp .ne 12, 3) := by decide +kernel
theorem dX10_line_60 : decode cX10_line 60 = .ok (.iload 5, 2) := by decide +kernel
theorem dX10_line_62 : decode cX10_line 62 = .ok (.bipush 24, 2) := by decide +kernel
theorem dX10_line_64 : decode cX10_line 64 = .ok (.if_icmp .le 5, 3) := by decide +kernel
theorem dX10_line_67 : decode cX10_line 67 = .ok (.iconst 0, 1) := by decide +kernel
theorem dX10_line_68 : decode cX10_line 68 = .ok (.ireturn, 1) := by decide +kernel
theorem dX10_line_69 : decode cX10_line 69 = .ok (.iconst 0, 1) := by decide +kernel
theorem dX10_line_70 : decode cX10_line 70 = .ok (.istore 6, 2) := by decide +kernel
theorem dX10_line_72 : decode cX10_line 72 = .ok (.iload 6, 2) := by decide +kernel
theorem dX10_line_74 : decode cX10_line 74 = .ok (.iload 5, 2) := by decide +kernel
theorem dX10_line_76 : decode cX10_line 76 = .ok (.if_icmp .ge 70, 3) := by decide +kernel
theorem dX10_line_79 : decode cX10_line 79 = .ok (.aload_n 0, 1) := by decide +kernel
theorem dX10_line_80 : decode cX10_line 80 = .ok (.iload_n 1, 1) := by decide +kernel
theorem dX10_line_81 : decode cX10_line 81 = .ok (.iload_n 2, 1) := by decide +kernel
theorem dX10_line_82 : decode cX10_line 82 = .ok (.iconst 2, 1) := by decide +kernel
theorem dX10_line_83 : decode cX10_line 83 = .ok (.iadd, 1) := by decide +kernel
theorem dX10_line_84 : decode cX10_line 84 = .ok (.iload 6, 2) := by decide +kernel
theorem dX10_line_86 : decode cX10_line 86 = .ok (.iadd, 1) := by decide +kernel
theorem dX10_line_87 : decode cX10_line 87 = .ok (.invokevirtual 148, 3) := by decide +kernel
theorem dX10_line_90 : decode cX10_line 90 = .ok (.istore 7, 2) := by decide +kernel
theorem dX10_line_92 : decode cX10_line 92 = .ok (.iload 4, 2) := by decide +kernel
theorem dX10_line_94 : decode cX10_line 94 = .ok (.bipush 75, 2) := by decide +kernel
theorem dX10_line_96 : decode cX10_line 96 = .ok (.if_icmp .ne 12, 3) := by decide +kernel
theorem dX10_line_99 : decode cX10_line 99 = .ok (.aload_n 0, 1) := by decide +kernel
theorem dX10_line_100 : decode cX10_line 100 = .ok (.getfield 29, 3) := by decide +kernel
theorem dX10_line_103 : decode cX10_line 103 = .ok (.iload 6, 2) := by decide +kernel
theorem dX10_line_105 : decode cX10_line 105 = .ok (.iload 7, 2) := by decide +kernel
theorem dX10_line_107 : decode cX10_line 107 = .ok (.iastore, 1) := by decide +kernel
theorem dX10_line_108 : decode cX10_line 108 = .ok (.iload 4, 2) := by decide +kernel
theorem dX10_line_110 : decode cX10_line 110 = .ok (.bipush 70, 2) := by decide +kernel
theorem dX10_line_112 : decode cX10_line 112 = .ok (.if_icmp .ne 12, 3) := by decide +kernel
theorem dX10_line_115 : decode cX10_line 115 = .ok (.aload_n 0, 1) := by decide +kernel
theorem dX10_line_116 : decode cX10_line 116 = .ok (.getfield 32, 3) := by decide +kernel
theorem dX10_line_119 : decode cX10_line 119 = .ok (.iload 6, 2) := by decide +kernel
theorem dX10_line_121 : decode cX10_line 121 = .ok (.iload 7, 2) := by decide +kernel
theorem dX10_line_123 : decode cX10_line 123 = .ok (.iastore, 1) := by decide +kernel
theorem dX10_line_124 : decode cX10_line 124 = .ok (.iload 4, 2) := by decide +kernel
theorem dX10_line_126 : decode cX10_line 126 = .ok (.bipush 65, 2) := by decide +kernel
theorem dX10_line_128 : decode cX10_line 128 = .ok (.if_icmp .ne 12, 3) := by decide +kernel
theorem dX10_line_131 : decode cX10_line 131 = .ok (.aload_n 0, 1) := by decide +kernel
theorem dX10_line_132 : decode cX10_line 132 = .ok (.getfield 35, 3) := by decide +kernel
theorem dX10_line_135 : decode cX10_line 135 = .ok (.iload 6, 2) := by decide +kernel
theorem dX10_line_137 : decode cX10_line 137 = .ok (.iload 7, 2) := by decide +kernel
theorem dX10_line_139 : decode cX10_line 139 = .ok (.iastore, 1) := by decide +kernel
theorem dX10_line_140 : decode cX10_line 140 = .ok (.iinc 6 1, 3) := by decide +kernel
theorem dX10_line_143 : decode cX10_line 143 = .ok (.goto (-71), 3) := by decide +kernel
theorem dX10_line_146 : decode cX10_line 146 = .ok (.aload_n 0, 1) := by decide +kernel
theorem dX10_line_147 : decode cX10_line 147 = .ok (.iload 4, 2) := by decide +kernel
theorem dX10_line_149 : decode cX10_line 149 = .ok (.bipush 75, 2) := by decide +kernel
theorem dX10_line_151 : decode cX10_line 151 = .ok (.if_icmp .ne 8, 3) := by decide +kernel
theorem dX10_line_154 : decode cX10_line 154 = .ok (.iload 5, 2) := by decide +kernel
theorem dX10_line_156 : decode cX10_line 156 = .ok (.goto 7, 3) := by decide +kernel
theorem dX10_line_159 : decode cX10_line 159 = .ok (.aload_n 0, 1) := by decide +kernel
theorem dX10_line_160 : decode cX10_line 160 = .ok (.getfield 159, 3) := by decide +kernel
theorem dX10_line_163 : decode cX10_line 163 = .ok (.putfield 159, 3) := by decide +kernel
theorem dX10_line_166 : decode cX10_line 166 = .ok (.aload_n 0, 1) := by decide +kernel
theorem dX10_line_167 : decode cX10_line 167 = .ok (.iload 4, 2) := by decide +kernel
theorem dX10_line_169 : decode cX10_line 169 = .ok (.bipush 70, 2) := by decide +kernel
theorem dX10_line_171 : decode cX10_line 171 = .ok (.if_icmp .ne 8, 3) := by decide +kernel
theorem dX10_line_174 : decode cX10_line 174 = .ok (.iload 5, 2) := by decide +kernel
theorem dX10_line_176 : decode cX10_line 176 = .ok (.goto 7, 3) := by decide +kernel
theorem dX10_line_179 : decode cX10_line 179 = .ok (.aload_n 0, 1) := by decide +kernel
theorem dX10_line_180 : decode cX10_line 180 = .ok (.getfield 162, 3) := by decide +kernel
theorem dX10_line_183 : decode cX10_line 183 = .ok (.putfield 162, 3) := by decide +kernel
theorem dX10_line_186 : decode cX10_line 186 = .ok (.aload_n 0, 1) := by decide +kernel
theorem dX10_line_187 : decode cX10_line 187 = .ok (.iload 4, 2) := by decide +kernel
theorem dX10_line_189 : decode cX10_line 189 = .ok (.bipush 65, 2) := by decide +kernel
theorem dX10_line_191 : decode cX10_line 191 = .ok (.if_icmp .ne 8, 3) := by decide +kernel
theorem dX10_line_194 : decode cX10_line 194 = .ok (.iload 5, 2) := by decide +kernel
theorem dX10_line_196 : decode cX10_line 196 = .ok (.goto 7, 3) := by decide +kernel
theorem dX10_line_199 : decode cX10_line 199 = .ok (.aload_n 0, 1) := by decide +kernel
theorem dX10_line_200 : decode cX10_line 200 = .ok (.getfield 165, 3) := by decide +kernel
theorem dX10_line_203 : decode cX10_line 203 = .ok (.putfield 165, 3) := by decide +kernel
theorem dX10_line_206 : decode cX10_line 206 = .ok (.iconst 1, 1) := by decide +kernel
theorem dX10_line_207 : decode cX10_line 207 = .ok (.ireturn, 1) := by decide +kernel
set_option maxRecDepth 20000 in
theorem ggX10_settings_X10_find : GoodIn wsX10_settings wsX10_find := goodIn_r _ [10, 11, 12, 13, 14, 15, 16, 17, 9, 18, 2, 1, 19, 20, 21, 22, 23, 24, 25, 26, 27, 28, 29, 30, 31, 32, 33, 34, 35, 36, 37, 38, 39, 40, 41, 42, 43, 44, 45, 46, 47, 48, 49, 50, 51, 52, 53, 54, 55, 56, 57, 58, 59, 60, 61, 62, 63, 64, 65, 66, 67, 68, 69, 89, 90, 91, 92, 93, 94, 95, 96, 97, 98, 99, 100, 101, 102, 103, 104, 105, 106, 107, 108, 109, 110, 111, 112, 113, 114] (by decide +kernel) (by decide +kernel)
set_option maxRecDepth 20000 in
theorem gX10_settings_X10_find : GoodIn wsX10_settings (wsV RX10 139 RX10 yX10_find wsX10_find) := goodIn_app (goodIn_of _ (by decide +kernel)) ggX10_settings_X10_find
set_option maxRecDepth 20000 in
theorem ggX10_settings_X10_isDirectory : GoodIn wsX10_settings wsX10_isDirectory := goodIn_r _ [69, 14, 89, 90, 91, 92, 93, 94, 95, 96, 97, 98, 99, 100, 101, 102, 103, 104, 105, 106, 107, 108, 109, 110, 111, 112, 113, 114] (by decide +kernel) (by decide +kernel)
set_option maxRecDepth 20000 in
theorem gX10_settings_X10_isDirectory : GoodIn wsX10_settings (wsV RX10 123 RX10 yX10_isDirectory wsX10_isDirectory) := goodIn_app (goodIn_of _ (by decide +kernel)) ggX10_settings_X10_isDirectory
set_option maxRecDepth 20000 in
theorem ggX10_settings_X10_isBroken : GoodIn wsX10_settings wsX10_isBroken := goodIn_r _ [73, 14, 51, 74, 75, 76, 9, 77, 43, 44, 45, 46, 27, 28, 29, 30, 31, 32, 33, 34, 35, 36, 37, 38, 39, 40, 41, 42, 89, 90, 91, 92, 93, 94, 95, 96, 97, 98, 99, 100, 101, 102, 103, 104, 105, 106, 107, 108, 109, 110, 111, 112, 113, 114] (by decide +kernel) (by decide +kernel)
set_option maxRecDepth 20000 in
theorem gX10_settings_X10_isBroken : GoodIn wsX10_settings (wsV RX10 145 RX10 yX10_isBroken wsX10_isBroken) := goodIn_app (goodIn_of _ (by decide +kernel)) ggX10_settings_X10_isBroken
set_option maxRecDepth 20000 in
theorem ggX10_settings_X10_sizeAt : GoodIn wsX10_settings wsX10_sizeAt := goodIn_r _ [77, 43, 44, 45, 9, 46, 14, 89, 90, 91, 92, 93, 94, 95, 96, 97, 98, 99, 100, 101, 102, 103, 104, 105, 106, 107, 108, 109, 110, 111, 112, 113, 114] (by decide +kernel) (by decide +kernel)
set_option maxRecDepth 20000 in
theorem gX10_settings_X10_sizeAt : GoodIn wsX10_settings (wsV RX10 126 RX10 yX10_sizeAt wsX10_sizeAt) := goodIn_app (goodIn_of _ (by decide +kernel)) ggX10_settings_X10_sizeAt
set_option maxRecDepth 20000 in
theorem ggX10_settings_X10_byteOf : GoodIn wsX10_settings wsX10_byteOf := goodIn_r _ [81, 14, 52, 53, 54, 9, 55, 51, 56, 36, 37, 38, 39, 40, 41, 42, 43, 44, 45, 46, 32, 33, 34, 35, 31, 89, 90, 91, 92, 93, 94, 95, 96, 97, 98, 99, 100, 101, 102, 103, 104, 105, 106, 107, 108, 109, 110, 111, 112, 113, 114] (by decide +kernel) (by decide +kernel)
set_option maxRecDepth 20000 in
theorem gX10_settings_X10_byteOf : GoodIn wsX10_settings (wsV RX10 148 RX10 yX10_byteOf wsX10_byteOf) := goodIn_app (goodIn_of _ (by decide +kernel)) ggX10_settings_X10_byteOf
set_option maxRecDepth 20000 in
theorem ggX10_settings_X10_line : GoodIn wsX10_settings wsX10_line := goodIn_r _ [85, 86, 87, 88, 3, 4, 5, 78, 79, 80, 9, 81, 14, 52, 53, 54, 55, 51, 56, 36, 37, 38, 39, 40, 41, 42, 43, 44, 45, 46, 32, 33, 34, 35, 31, 89, 90, 91, 92, 93, 94, 95, 96, 97, 98, 99, 100, 101, 102, 103, 104, 105, 106, 107, 108, 109, 110, 111, 112, 113, 114] (by decide +kernel) (by decide +kernel)
set_option maxRecDepth 20000 in
theorem gX10_settings_X10_line : GoodIn wsX10_settings (wsV RX10 168 RX10 yX10_line wsX10_line) := goodIn_app (goodIn_of _ (by decide +kernel)) ggX10_settings_X10_line
theorem dX10_settings_0 : decode cX10_settings 0 = .ok (.aload_n 0, 1) := by decide +kernel
theorem dX10_settings_1 : decode cX10_settings 1 = .ok (.getfield 23, 3) := by decide +kernel
theorem dX10_settings_4 : decode cX10_settings 4 = .ok (.iconst 0, 1) := by decide +kernel
theorem dX10_settings_5 : decode cX10_settings 5 = .ok (.bipush 66, 2) := by decide +kernel
theorem dX10_settings_7 : decode cX10_settings 7 = .ok (.iastore, 1) := by decide +kernel
theorem dX10_settings_8 : decode cX10_settings 8 = .ok (.aload_n 0, 1) := by decide +kernel
theorem dX10_settings_9 : decode cX10_settings 9 = .ok (.getfield 23, 3) := by decide +kernel
theorem dX10_settings_12 : decode cX10_settings 12 = .ok (.iconst 1, 1) := by decide +kernel
theorem dX10_settings_13 : decode cX10_settings 13 = .ok (.bipush 79, 2) := by decide +kernel
theorem dX10_settings_15 : decode cX10_settings 15 = .ok (.iastore, 1) := by decide +kernel
theorem dX10_settings_16 : decode cX10_settings 16 = .ok (.aload_n 0, 1) := by decide +kernel
theorem dX10_settings_17 : decode cX10_settings 17 = .ok (.getfield 23, 3) := by decide +kernel
theorem dX10_settings_20 : decode cX10_settings 20 = .ok (.iconst 2, 1) := by decide +kernel
theorem dX10_settings_21 : decode cX10_settings 21 = .ok (.bipush 79, 2) := by decide +kernel
theorem dX10_settings_23 : decode cX10_settings 23 = .ok (.iastore, 1) := by decide +kernel
theorem dX10_settings_24 : decode cX10_settings 24 = .ok (.aload_n 0, 1) := by decide +kernel
theorem dX10_settings_25 : decode cX10_settings 25 = .ok (.getfield 23, 3) := by decide +kernel
theorem dX10_settings_28 : decode cX10_settings 28 = .ok (.iconst 3, 1) := by decide +kernel
theorem dX10_settings_29 : decode cX10_settings 29 = .ok (.bipush 84, 2) := by decide +kernel
theorem dX10_settings_31 : decode cX10_settings 31 = .ok (.iastore, 1) := by decide +kernel
theorem dX10_settings_32 : decode cX10_settings 32 = .ok (.aload_n 0, 1) := by decide +kernel
theorem dX10_settings_33 : decode cX10_settings 33 = .ok (.iconst 4, 1) := by decide +kernel
theorem dX10_settings_34 : decode cX10_settings 34 = .ok (.putfield 110, 3) := by decide +kernel
theorem dX10_settings_37 : decode cX10_settings 37 = .ok (.aload_n 0, 1) := by decide +kernel
theorem dX10_settings_38 : decode cX10_settings 38 = .ok (.invokevirtual 139, 3) := by decide +kernel
theorem dX10_settings_41 : decode cX10_settings 41 = .ok (.istore_n 1, 1) := by decide +kernel
theorem dX10_settings_42 : decode cX10_settings 42 = .ok (.iload_n 1, 1) := by decide +kernel
theorem dX10_settings_43 : decode cX10_settings 43 = .ok (.ifCond .ge 5, 3) := by decide +kernel
theorem dX10_settings_46 : decode cX10_settings 46 = .ok (.iload_n 1, 1) := by decide +kernel
theorem dX10_settings_47 : decode cX10_settings 47 = .ok (.ireturn, 1) := by decide +kernel
theorem dX10_settings_48 : decode cX10_settings 48 = .ok (.aload_n 0, 1) := by decide +kernel
theorem dX10_settings_49 : decode cX10_settings 49 = .ok (.iload_n 1, 1) := by decide +kernel
theorem dX10_settings_50 : decode cX10_settings 50 = .ok (.invokevirtual 123, 3) := by decide +kernel
theorem dX10_settings_53 : decode cX10_settings 53 = .ok (.ifCond .eq 6, 3) := by decide +kernel
theorem dX10_settings_56 : decode cX10_settings 56 = .ok (.bipush (-7), 2) := by decide +kernel
theorem dX10_settings_58 : decode cX10_settings 58 = .ok (.ireturn, 1) := by decide +kernel
theorem dX10_settings_59 : decode cX10_settings 59 = .ok (.aload_n 0, 1) := by decide +kernel
theorem dX10_settings_60 : decode cX10_settings 60 = .ok (.iload_n 1, 1) := by decide +kernel
theorem dX10_settings_61 : decode cX10_settings 61 = .ok (.invokevirtual 145, 3) := by decide +kernel
theorem dX10_settings_64 : decode cX10_settings 64 = .ok (.ifCond .eq 6, 3) := by decide +kernel
theorem dX10_settings_67 : decode cX10_settings 67 = .ok (.bipush (-9), 2) := by decide +kernel
theorem dX10_settings_69 : decode cX10_settings 69 = .ok (.ireturn, 1) := by decide +kernel
theorem dX10_settings_70 : decode cX10_settings 70 = .ok (.aload_n 0, 1) := by decide +kernel
theorem dX10_settings_71 : decode cX10_settings 71 = .ok (.iload_n 1, 1) := by decide +kernel
theorem dX10_settings_72 : decode cX10_settings 72 = .ok (.invokevirtual 126, 3) := by decide +kernel
theorem dX10_settings_75 : decode cX10_settings 75 = .ok (.istore_n 2, 1) := by decide +kernel
theorem dX10_settings_76 : decode cX10_settings 76 = .ok (.aload_n 0, 1) := by decide +kernel
theorem dX10_settings_77 : decode cX10_settings 77 = .ok (.iconst (-1), 1) := by decide +kernel
theorem dX10_settings_78 : decode cX10_settings 78 = .ok (.putfield 159, 3) := by decide +kernel
theorem dX10_settings_81 : decode cX10_settings 81 = .ok (.aload_n 0, 1) := by decide +kernel
theorem dX10_settings_82 : decode cX10_settings 82 = .ok (.iconst (-1), 1) := by decide +kernel
theorem dX10_settings_83 : decode cX10_settings 83 = .ok (.putfield 162, 3) := by decide +kernel
theorem dX10_settings_86 : decode cX10_settings 86 = .ok (.aload_n 0, 1) := by decide +kernel
theorem dX10_settings_87 : decode cX10_settings 87 = .ok (.iconst (-1), 1) := by decide +kernel
theorem dX10_settings_88 : decode cX10_settings 88 = .ok (.putfield 165, 3) := by decide +kernel
theorem dX10_settings_91 : decode cX10_settings 91 = .ok (.iload_n 2, 1) := by decide +kernel
theorem dX10_settings_92 : decode cX10_settings 92 = .ok (.sipush 200, 3) := by decide +kernel
theorem dX10_settings_95 : decode cX10_settings 95 = .ok (.if_icmp .le 6, 3) := by decide +kernel
theorem dX10_settings_98 : decode cX10_settings 98 = .ok (.bipush (-10), 2) := by decide +kernel
theorem dX10_settings_100 : decode cX10_settings 100 = .ok (.ireturn, 1) := by decide +kernel
theorem dX10_settings_101 : decode cX10_settings 101 = .ok (.iconst 0, 1) := by decide +kernel
theorem dX10_settings_102 : decode cX10_settings 102 = .ok (.istore_n 3, 1) := by decide +kernel
theorem dX10_settings_103 : decode cX10_settings 103 = .ok (.iconst 0, 1) := by decide +kernel
theorem dX10_settings_104 : decode cX10_settings 104 = .ok (.istore 4, 2) := by decide +kernel
theorem dX10_settings_106 : decode cX10_settings 106 = .ok (.iload 4, 2) := by decide +kernel
theorem dX10_settings_108 : decode cX10_settings 108 = .ok (.iload_n 2, 1) := by decide +kernel
theorem dX10_settings_109 : decode cX10_settings 109 = .ok (.if_icmp .gt 67, 3) := by decide +kernel
theorem dX10_settings_112 : decode cX10_settings 112 = .ok (.iload 4, 2) := by decide +kernel
theorem dX10_settings_114 : decode cX10_settings 114 = .ok (.iload_n 2, 1) := by decide +kernel
theorem dX10_settings_115 : decode cX10_settings 115 = .ok (.if_icmp .eq 15, 3) := by decide +kernel
theorem dX10_settings_118 : decode cX10_settings 118 = .ok (.aload_n 0, 1) := by decide +kernel
theorem dX10_settings_119 : decode cX10_settings 119 = .ok (.iload_n 1, 1) := by decide +kernel
theorem dX10_settings_120 : decode cX10_settings 120 = .ok (.iload 4, 2) := by decide +kernel
theorem dX10_settings_122 : decode cX10_settings 122 = .ok (.invokevirtual 148, 3) := by decide +kernel
theorem dX10_settings_125 : decode cX10_settings 125 = .ok (.bipush 10, 2) := by decide +kernel
theorem dX10_settings_127 : decode cX10_settings 127 = .ok (.if_icmp .ne 7, 3) := by decide +kernel
theorem dX10_settings_130 : decode cX10_settings 130 = .ok (.iconst 1, 1) := by decide +kernel
theorem dX10_settings_131 : decode cX10_settings 131 = .ok (.goto 4, 3) := by decide +kernel
theorem dX10_settings_134 : decode cX10_settings 134 = .ok (.iconst 0, 1) := by decide +kernel
theorem dX10_settings_135 : decode cX10_settings 135 = .ok (.istore 5, 2) := by decide +kernel
theorem dX10_settings_137 : decode cX10_settings 137 = .ok (.iload 5, 2) := by decide +kernel
theorem dX10_settings_139 : decode cX10_settings 139 = .ok (.ifCond .eq 17, 3) := by decide +kernel
theorem dX10_settings_142 : decode cX10_settings 142 = .ok (.aload_n 0, 1) := by decide +kernel
theorem dX10_settings_143 : decode cX10_settings 143 = .ok (.iload_n 1, 1) := by decide +kernel
theorem dX10_settings_144 : decode cX10_settings 144 = .ok (.iload_n 3, 1) := by decide +kernel
theorem dX10_settings_145 : decode cX10_settings 145 = .ok (.iload 4, 2) := by decide +kernel
theorem dX10_settings_147 : decode cX10_settings 147 = .ok (.invokevirtual 168, 3) := by decide +kernel
theorem dX10_settings_150 : decode cX10_settings 150 = .ok (.ifCond .ne 6, 3) := by decide +kernel
theorem dX10_settings_153 : decode cX10_settings 153 = .ok (.bipush (-10), 2) := by decide +kernel
theorem dX10_settings_155 : decode cX10_settings 155 = .ok (.ireturn, 1) := by decide +kernel
theorem dX10_settings_156 : decode cX10_settings 156 = .ok (.iload 5, 2) := by decide +kernel
theorem dX10_settings_158 : decode cX10_settings 158 = .ok (.ifCond .eq 10, 3) := by decide +kernel
theorem dX10_settings_161 : decode cX10_settings 161 = .ok (.iload 4, 2) := by decide +kernel
theorem dX10_settings_163 : decode cX10_settings 163 = .ok (.iconst 1, 1) := by decide +kernel
theorem dX10_settings_164 : decode cX10_settings 164 = .ok (.iadd, 1) := by decide +kernel
theorem dX10_settings_165 : decode cX10_settings 165 = .ok (.goto 4, 3) := by decide +kernel
theorem dX10_settings_168 : decode cX10_settings 168 = .ok (.iload_n 3, 1) := by decide +kernel
theorem dX10_settings_169 : decode cX10_settings 169 = .ok (.istore_n 3, 1) := by decide +kernel
theorem dX10_settings_170 : decode cX10_settings 170 = .ok (.iinc 4 1, 3) := by decide +kernel
theorem dX10_settings_173 : decode cX10_settings 173 = .ok (.goto (-67), 3) := by decide +kernel
theorem dX10_settings_176 : decode cX10_settings 176 = .ok (.aload_n 0, 1) := by decide +kernel
theorem dX10_settings_177 : decode cX10_settings 177 = .ok (.getfield 159, 3) := by decide +kernel
theorem dX10_settings_180 : decode cX10_settings 180 = .ok (.ifCond .ge 8, 3) := by decide +kernel
theorem dX10_settings_183 : decode cX10_settings 183 = .ok (.bipush (-10), 2) := by decide +kernel
theorem dX10_settings_185 : decode cX10_settings 185 = .ok (.goto 4, 3) := by decide +kernel
theorem dX10_settings_188 : decode cX10_settings 188 = .ok (.iconst 0, 1) := by decide +kernel
theorem dX10_settings_189 : decode cX10_settings 189 = .ok (.ireturn, 1) := by decide +kernel
set_option maxRecDepth 20000 in
theorem ggX10_intOf_X10_byteOf : GoodIn wsX10_intOf wsX10_byteOf := goodIn_r _ [5, 6, 7, 8, 9, 4, 10, 11, 12, 13, 14, 15, 16, 17, 18, 19, 20, 21, 22, 23, 24, 25, 26, 27, 28, 29, 30, 31, 32, 33, 34, 35, 36, 37, 38, 39, 40, 41, 42, 43, 44, 45, 46, 47, 48, 49, 50, 51, 52, 53, 54] (by decide +kernel) (by decide +kernel)
set_option maxRecDepth 20000 in
theorem gX10_intOf_X10_byteOf : GoodIn wsX10_intOf (wsV RX10 148 RX10 yX10_byteOf wsX10_byteOf) := goodIn_app (goodIn_of _ (by decide +kernel)) ggX10_intOf_X10_byteOf
theorem dX10_intOf_0 : decode cX10_intOf 0 = .ok (.iconst 0, 1) := by decide +kernel
theorem dX10_intOf_1 : decode cX10_intOf 1 = .ok (.istore_n 3, 1) := by decide +kernel
theorem dX10_intOf_2 : decode cX10_intOf 2 = .ok (.iconst 3, 1) := by decide +kernel
theorem dX10_intOf_3 : decode cX10_intOf 3 = .ok (.istore 4, 2) := by decide +kernel
theorem dX10_intOf_5 : decode cX10_intOf 5 = .ok (.iload 4, 2) := by decide +kernel
theorem dX10_intOf_7 : decode cX10_intOf 7 = .ok (.ifCond .lt 24, 3) := by decide +kernel
theorem dX10_intOf_10 : decode cX10_intOf 10 = .ok (.iload_n 3, 1) := by decide +kernel
theorem dX10_intOf_11 : decode cX10_intOf 11 = .ok (.bipush 8, 2) := by decide +kernel
theorem dX10_intOf_13 : decode cX10_intOf 13 = .ok (.ishl, 1) := by decide +kernel
theorem dX10_intOf_14 : decode cX10_intOf 14 = .ok (.aload_n 0, 1) := by decide +kernel
theorem dX10_intOf_15 : decode cX10_intOf 15 = .ok (.iload_n 1, 1) := by decide +kernel
theorem dX10_intOf_16 : decode cX10_intOf 16 = .ok (.iload_n 2, 1) := by decide +kernel
theorem dX10_intOf_17 : decode cX10_intOf 17 = .ok (.iload 4, 2) := by decide +kernel
theorem dX10_intOf_19 : decode cX10_intOf 19 = .ok (.iadd, 1) := by decide +kernel
theorem dX10_intOf_20 : decode cX10_intOf 20 = .ok (.invokevirtual 148, 3) := by decide +kernel
theorem dX10_intOf_23 : decode cX10_intOf 23 = .ok (.ior, 1) := by decide +kernel
theorem dX10_intOf_24 : decode cX10_intOf 24 = .ok (.istore_n 3, 1) := by decide +kernel
theorem dX10_intOf_25 : decode cX10_intOf 25 = .ok (.iinc 4 (-1), 3) := by decide +kernel
theorem dX10_intOf_28 : decode cX10_intOf 28 = .ok (.goto (-23), 3) := by decide +kernel
theorem dX10_intOf_31 : decode cX10_intOf 31 = .ok (.iload_n 3, 1) := by decide +kernel
theorem dX10_intOf_32 : decode cX10_intOf 32 = .ok (.ireturn, 1) := by decide +kernel
theorem dX10_put_0 : decode cX10_put 0 = .ok (.iconst 0, 1) := by decide +kernel
theorem dX10_put_1 : decode cX10_put 1 = .ok (.istore_n 3, 1) := by decide +kernel
theorem dX10_put_2 : decode cX10_put 2 = .ok (.iload_n 3, 1) := by decide +kernel
theorem dX10_put_3 : decode cX10_put 3 = .ok (.iconst 4, 1) := by decide +kernel
theorem dX10_put_4 : decode cX10_put 4 = .ok (.if_icmp .ge 27, 3) := by decide +kernel
theorem dX10_put_7 : decode cX10_put 7 = .ok (.aload_n 0, 1) := by decide +kernel
theorem dX10_put_8 : decode cX10_put 8 = .ok (.getfield 13, 3) := by decide +kernel
theorem dX10_put_11 : decode cX10_put 11 = .ok (.iload_n 1, 1) := by decide +kernel
theorem dX10_put_12 : decode cX10_put 12 = .ok (.iload_n 3, 1) := by decide +kernel
theorem dX10_put_13 : decode cX10_put 13 = .ok (.iadd, 1) := by decide +kernel
theorem dX10_put_14 : decode cX10_put 14 = .ok (.iload_n 2, 1) := by decide +kernel
theorem dX10_put_15 : decode cX10_put 15 = .ok (.bipush 8, 2) := by decide +kernel
theorem dX10_put_17 : decode cX10_put 17 = .ok (.iload_n 3, 1) := by decide +kernel
theorem dX10_put_18 : decode cX10_put 18 = .ok (.imul, 1) := by decide +kernel
theorem dX10_put_19 : decode cX10_put 19 = .ok (.ishr, 1) := by decide +kernel
theorem dX10_put_20 : decode cX10_put 20 = .ok (.sipush 255, 3) := by decide +kernel
theorem dX10_put_23 : decode cX10_put 23 = .ok (.iand, 1) := by decide +kernel
theorem dX10_put_24 : decode cX10_put 24 = .ok (.iastore, 1) := by decide +kernel
theorem dX10_put_25 : decode cX10_put 25 = .ok (.iinc 3 1, 3) := by decide +kernel
theorem dX10_put_28 : decode cX10_put 28 = .ok (.goto (-26), 3) := by decide +kernel
theorem dX10_put_31 : decode cX10_put 31 = .ok (.return_, 1) := by decide +kernel
set_option maxRecDepth 20000 in
theorem ggX10_fill_X10_sizeAt : GoodIn wsX10_fill wsX10_sizeAt := goodIn_r _ [10, 11, 12, 13, 9, 14, 15, 42, 43, 44, 45, 46, 47, 48, 49, 50, 51, 52, 53, 54, 55, 56, 57, 58, 59, 60, 61, 62, 63, 64, 65, 66, 67] (by decide +kernel) (by decide +kernel)
set_option maxRecDepth 20000 in
theorem gX10_fill_X10_sizeAt : GoodIn wsX10_fill (wsV RX10 126 RX10 yX10_sizeAt wsX10_sizeAt) := goodIn_app (goodIn_of _ (by decide +kernel)) ggX10_fill_X10_sizeAt
set_option maxRecDepth 20000 in
theorem ggX10_fill_X10_byteOf : GoodIn wsX10_fill wsX10_byteOf := goodIn_r _ [19, 15, 20, 21, 22, 9, 23, 24, 25, 26, 27, 28, 29, 30, 31, 32, 11, 12, 13, 14, 33, 34, 35, 36, 37, 42, 43, 44, 45, 46, 47, 48, 49, 50, 51, 52, 53, 54, 55, 56, 57, 58, 59, 60, 61, 62, 63, 64, 65, 66, 67] (by decide +kernel) (by decide +kernel)
set_option maxRecDepth 20000 in
theorem gX10_fill_X10_byteOf : GoodIn wsX10_fill (wsV RX10 148 RX10 yX10_byteOf wsX10_byteOf) := goodIn_app (goodIn_of _ (by decide +kernel)) ggX10_fill_X10_byteOf
set_option maxRecDepth 20000 in
theorem ggX10_fill_X10_put : GoodIn wsX10_fill wsX10_put := goodIn_r _ [41, 1, 42, 43, 44, 45, 46, 47, 48, 49, 50, 51, 52, 53, 54, 55, 56, 57, 58, 59, 60, 61, 62, 63, 64, 65, 66, 67] (by decide +kernel) (by decide +kernel)
set_option maxRecDepth 20000 in
theorem gX10_fill_X10_put : GoodIn wsX10_fill (wsV RX10 173 RX10 yX10_put wsX10_put) := goodIn_app (goodIn_of _ (by decide +kernel)) ggX10_fill_X10_put
theorem dX10_fill_0 : decode cX10_fill 0 = .ok (.aload_n 0, 1) := by decide +kernel
theorem dX10_fill_1 : decode cX10_fill 1 = .ok (.iload_n 1, 1) := by decide +kernel
theorem dX10_fill_2 : decode cX10_fill 2 = .ok (.invokevirtual 126, 3) := by decide +kernel
theorem dX10_fill_5 : decode cX10_fill 5 = .ok (.istore 4, 2) := by decide +kernel
theorem dX10_fill_7 : decode cX10_fill 7 = .ok (.iconst 0, 1) := by decide +kernel
theorem dX10_fill_8 : decode cX10_fill 8 = .ok (.istore 5, 2) := by decide +kernel
theorem dX10_fill_10 : decode cX10_fill 10 = .ok (.iload 5, 2) := by decide +kernel
theorem dX10_fill_12 : decode cX10_fill 12 = .ok (.sipush 1024, 3) := by decide +kernel
theorem dX10_fill_15 : decode cX10_fill 15 = .ok (.if_icmp .ge 17, 3) := by decide +kernel
theorem dX10_fill_18 : decode cX10_fill 18 = .ok (.aload_n 0, 1) := by decide +kernel
theorem dX10_fill_19 : decode cX10_fill 19 = .ok (.getfield 13, 3) := by decide +kernel
theorem dX10_fill_22 : decode cX10_fill 22 = .ok (.iload 5, 2) := by decide +kernel
theorem dX10_fill_24 : decode cX10_fill 24 = .ok (.iconst 0, 1) := by decide +kernel
theorem dX10_fill_25 : decode cX10_fill 25 = .ok (.iastore, 1) := by decide +kernel
theorem dX10_fill_26 : decode cX10_fill 26 = .ok (.iinc 5 1, 3) := by decide +kernel
theorem dX10_fill_29 : decode cX10_fill 29 = .ok (.goto (-19), 3) := by decide +kernel
theorem dX10_fill_32 : decode cX10_fill 32 = .ok (.iconst 0, 1) := by decide +kernel
theorem dX10_fill_33 : decode cX10_fill 33 = .ok (.istore 5, 2) := by decide +kernel
theorem dX10_fill_35 : decode cX10_fill 35 = .ok (.iload 5, 2) := by decide +kernel
theorem dX10_fill_37 : decode cX10_fill 37 = .ok (.iload 4, 2) := by decide +kernel
theorem dX10_fill_39 : decode cX10_fill 39 = .ok (.if_icmp .ge 25, 3) := by decide +kernel
theorem dX10_fill_42 : decode cX10_fill 42 = .ok (.aload_n 0, 1) := by decide +kernel
theorem dX10_fill_43 : decode cX10_fill 43 = .ok (.getfield 13, 3) := by decide +kernel
theorem dX10_fill_46 : decode cX10_fill 46 = .ok (.iload_n 2, 1) := by decide +kernel
theorem dX10_fill_47 : decode cX10_fill 47 = .ok (.iload 5, 2) := by decide +kernel
theorem dX10_fill_49 : decode cX10_fill 49 = .ok (.iadd, 1) := by decide +kernel
theorem dX10_fill_50 : decode cX10_fill 50 = .ok (.aload_n 0, 1) := by decide +kernel
theorem dX10_fill_51 : decode cX10_fill 51 = .ok (.iload_n 1, 1) := by decide +kernel
theorem dX10_fill_52 : decode cX10_fill 52 = .ok (.iload 5, 2) := by decide +kernel
theorem dX10_fill_54 : decode cX10_fill 54 = .ok (.invokevirtual 148, 3) := by decide +kernel
theorem dX10_fill_57 : decode cX10_fill 57 = .ok (.iastore, 1) := by decide +kernel
theorem dX10_fill_58 : decode cX10_fill 58 = .ok (.iinc 5 1, 3) := by decide +kernel
theorem dX10_fill_61 : decode cX10_fill 61 = .ok (.goto (-26), 3) := by decide +kernel
theorem dX10_fill_64 : decode cX10_fill 64 = .ok (.iload_n 3, 1) := by decide +kernel
theorem dX10_fill_65 : decode cX10_fill 65 = .ok (.iconst 2, 1) := by decide +kernel
theorem dX10_fill_66 : decode cX10_fill 66 = .ok (.iand, 1) := by decide +kernel
theorem dX10_fill_67 : decode cX10_fill 67 = .ok (.ifCond .eq 9, 3) := by decide +kernel
theorem dX10_fill_70 : decode cX10_fill 70 = .ok (.sipush 1024, 3) := by decide +kernel
theorem dX10_fill_73 : decode cX10_fill 73 = .ok (.goto 4, 3) := by decide +kernel
theorem dX10_fill_76 : decode cX10_fill 76 = .ok (.iconst 0, 1) := by decide +kernel
theorem dX10_fill_77 : decode cX10_fill 77 = .ok (.istore 5, 2) := by decide +kernel
theorem dX10_fill_79 : decode cX10_fill 79 = .ok (.aload_n 0, 1) := by decide +kernel
theorem dX10_fill_80 : decode cX10_fill 80 = .ok (.getfield 165, 3) := by decide +kernel
theorem dX10_fill_83 : decode cX10_fill 83 = .ok (.ifCond .le 8, 3) := by decide +kernel
theorem dX10_fill_86 : decode cX10_fill 86 = .ok (.bipush 32, 2) := by decide +kernel
theorem dX10_fill_88 : decode cX10_fill 88 = .ok (.goto 4, 3) := by decide +kernel
theorem dX10_fill_91 : decode cX10_fill 91 = .ok (.iconst 0, 1) := by decide +kernel
theorem dX10_fill_92 : decode cX10_fill 92 = .ok (.istore 6, 2) := by decide +kernel
theorem dX10_fill_94 : decode cX10_fill 94 = .ok (.aload_n 0, 1) := by decide +kernel
theorem dX10_fill_95 : decode cX10_fill 95 = .ok (.iconst 0, 1) := by decide +kernel
theorem dX10_fill_96 : decode cX10_fill 96 = .ok (.ldc 172, 2) := by decide +kernel
theorem dX10_fill_98 : decode cX10_fill 98 = .ok (.invokevirtual 173, 3) := by decide +kernel
theorem dX10_fill_101 : decode cX10_fill 101 = .ok (.aload_n 0, 1) := by decide +kernel
theorem dX10_fill_102 : decode cX10_fill 102 = .ok (.iconst 4, 1) := by decide +kernel
theorem dX10_fill_103 : decode cX10_fill 103 = .ok (.iload 5, 2) := by decide +kernel
theorem dX10_fill_105 : decode cX10_fill 105 = .ok (.invokevirtual 173, 3) := by decide +kernel
theorem dX10_fill_108 : decode cX10_fill 108 = .ok (.aload_n 0, 1) := by decide +kernel
theorem dX10_fill_109 : decode cX10_fill 109 = .ok (.bipush 8, 2) := by decide +kernel
theorem dX10_fill_111 : decode cX10_fill 111 = .ok (.iload 6, 2) := by decide +kernel
theorem dX10_fill_113 : decode cX10_fill 113 = .ok (.invokevirtual 173, 3) := by decide +kernel
theorem dX10_fill_116 : decode cX10_fill 116 = .ok (.aload_n 0, 1) := by decide +kernel
theorem dX10_fill_117 : decode cX10_fill 117 = .ok (.bipush 12, 2) := by decide +kernel
theorem dX10_fill_119 : decode cX10_fill 119 = .ok (.iload_n 2, 1) := by decide +kernel
theorem dX10_fill_120 : decode cX10_fill 120 = .ok (.invokevirtual 173, 3) := by decide +kernel
theorem dX10_fill_123 : decode cX10_fill 123 = .ok (.aload_n 0, 1) := by decide +kernel
theorem dX10_fill_124 : decode cX10_fill 124 = .ok (.bipush 16, 2) := by decide +kernel
theorem dX10_fill_126 : decode cX10_fill 126 = .ok (.iload_n 2, 1) := by decide +kernel
theorem dX10_fill_127 : decode cX10_fill 127 = .ok (.iload 4, 2) := by decide +kernel
theorem dX10_fill_129 : decode cX10_fill 129 = .ok (.iadd, 1) := by decide +kernel
theorem dX10_fill_130 : decode cX10_fill 130 = .ok (.invokevirtual 173, 3) := by decide +kernel
theorem dX10_fill_133 : decode cX10_fill 133 = .ok (.aload_n 0, 1) := by decide +kernel
theorem dX10_fill_134 : decode cX10_fill 134 = .ok (.bipush 20, 2) := by decide +kernel
theorem dX10_fill_136 : decode cX10_fill 136 = .ok (.aload_n 0, 1) := by decide +kernel
theorem dX10_fill_137 : decode cX10_fill 137 = .ok (.getfield 60, 3) := by decide +kernel
theorem dX10_fill_140 : decode cX10_fill 140 = .ok (.invokevirtual 173, 3) := by decide +kernel
theorem dX10_fill_143 : decode cX10_fill 143 = .ok (.aload_n 0, 1) := by decide +kernel
theorem dX10_fill_144 : decode cX10_fill 144 = .ok (.bipush 24, 2) := by decide +kernel
theorem dX10_fill_146 : decode cX10_fill 146 = .ok (.ldc 172, 2) := by decide +kernel
theorem dX10_fill_148 : decode cX10_fill 148 = .ok (.iload 5, 2) := by decide +kernel
theorem dX10_fill_150 : decode cX10_fill 150 = .ok (.iadd, 1) := by decide +kernel
theorem dX10_fill_151 : decode cX10_fill 151 = .ok (.iload 6, 2) := by decide +kernel
theorem dX10_fill_153 : decode cX10_fill 153 = .ok (.iadd, 1) := by decide +kernel
theorem dX10_fill_154 : decode cX10_fill 154 = .ok (.iload_n 2, 1) := by decide +kernel
theorem dX10_fill_155 : decode cX10_fill 155 = .ok (.iadd, 1) := by decide +kernel
theorem dX10_fill_156 : decode cX10_fill 156 = .ok (.iload_n 2, 1) := by decide +kernel
theorem dX10_fill_157 : decode cX10_fill 157 = .ok (.iadd, 1) := by decide +kernel
theorem dX10_fill_158 : decode cX10_fill 158 = .ok (.iload 4, 2) := by decide +kernel
theorem dX10_fill_160 : decode cX10_fill 160 = .ok (.iadd, 1) := by decide +kernel
theorem dX10_fill_161 : decode cX10_fill 161 = .ok (.aload_n 0, 1) := by decide +kernel
theorem dX10_fill_162 : decode cX10_fill 162 = .ok (.getfield 60, 3) := by decide +kernel
theorem dX10_fill_165 : decode cX10_fill 165 = .ok (.iadd, 1) := by decide +kernel
theorem dX10_fill_166 : decode cX10_fill 166 = .ok (.ineg, 1) := by decide +kernel
theorem dX10_fill_167 : decode cX10_fill 167 = .ok (.invokevirtual 173, 3) := by decide +kernel
theorem dX10_fill_170 : decode cX10_fill 170 = .ok (.iconst 0, 1) := by decide +kernel
theorem dX10_fill_171 : decode cX10_fill 171 = .ok (.istore 7, 2) := by decide +kernel
theorem dX10_fill_173 : decode cX10_fill 173 = .ok (.iload 7, 2) := by decide +kernel
theorem dX10_fill_175 : decode cX10_fill 175 = .ok (.aload_n 0, 1) := by decide +kernel
theorem dX10_fill_176 : decode cX10_fill 176 = .ok (.getfield 165, 3) := by decide +kernel
theorem dX10_fill_179 : decode cX10_fill 179 = .ok (.if_icmp .ge 26, 3) := by decide +kernel
theorem dX10_fill_182 : decode cX10_fill 182 = .ok (.aload_n 0, 1) := by decide +kernel
theorem dX10_fill_183 : decode cX10_fill 183 = .ok (.getfield 13, 3) := by decide +kernel
theorem dX10_fill_186 : decode cX10_fill 186 = .ok (.bipush 32, 2) := by decide +kernel
theorem dX10_fill_188 : decode cX10_fill 188 = .ok (.iload 7, 2) := by decide +kernel
theorem dX10_fill_190 : decode cX10_fill 190 = .ok (.iadd, 1) := by decide +kernel
theorem dX10_fill_191 : decode cX10_fill 191 = .ok (.aload_n 0, 1) := by decide +kernel
theorem dX10_fill_192 : decode cX10_fill 192 = .ok (.getfield 35, 3) := by decide +kernel
theorem dX10_fill_195 : decode cX10_fill 195 = .ok (.iload 7, 2) := by decide +kernel
theorem dX10_fill_197 : decode cX10_fill 197 = .ok (.iaload, 1) := by decide +kernel
theorem dX10_fill_198 : decode cX10_fill 198 = .ok (.iastore, 1) := by decide +kernel
theorem dX10_fill_199 : decode cX10_fill 199 = .ok (.iinc 7 1, 3) := by decide +kernel
theorem dX10_fill_202 : decode cX10_fill 202 = .ok (.goto (-29), 3) := by decide +kernel
theorem dX10_fill_205 : decode cX10_fill 205 = .ok (.return_, 1) := by decide +kernel
set_option maxRecDepth 20000 in
theorem ggX10_load_X10_find : GoodIn wsX10_load wsX10_find := goodIn_r _ [7, 8, 9, 10, 11, 12, 13, 14, 6, 15, 16, 17, 18, 19, 20, 21, 22, 23, 24, 25, 26, 27, 28, 29, 30, 31, 32, 33, 34, 35, 36, 37, 38, 39, 40, 41, 42, 43, 44, 45, 46, 47, 48, 49, 50, 51, 52, 53, 54, 55, 56, 57, 58, 59, 60, 61, 62, 63, 64, 65, 66, 67, 68, 98, 99, 100, 101, 102, 103, 104, 105, 106, 107, 108, 109, 110, 111, 112, 113, 114, 115, 116, 117, 118, 119, 120, 121, 122, 123] (by decide +kernel) (by decide +kernel)
set_option maxRecDepth 20000 in
theorem gX10_load_X10_find : GoodIn wsX10_load (wsV RX10 139 RX10 yX10_find wsX10_find) := goodIn_app (goodIn_of _ (by decide +kernel)) ggX10_load_X10_find
set_option maxRecDepth 20000 in
theorem ggX10_load_X10_isDirectory : GoodIn wsX10_load wsX10_isDirectory := goodIn_r _ [68, 11, 98, 99, 100, 101, 102, 103, 104, 105, 106, 107, 108, 109, 110, 111, 112, 113, 114, 115, 116, 117, 118, 119, 120, 121, 122, 123] (by decide +kernel) (by decide +kernel)
set_option maxRecDepth 20000 in
theorem gX10_load_X10_isDirectory : GoodIn wsX10_load (wsV RX10 123 RX10 yX10_isDirectory wsX10_isDirectory) := goodIn_app (goodIn_of _ (by decide +kernel)) ggX10_load_X10_isDirectory
set_option maxRecDepth 20000 in
theorem ggX10_load_X10_isBroken : GoodIn wsX10_load wsX10_isBroken := goodIn_r _ [72, 11, 50, 73, 74, 75, 6, 76, 42, 43, 44, 45, 26, 27, 28, 29, 30, 31, 32, 33, 34, 35, 36, 37, 38, 39, 40, 41, 98, 99, 100, 101, 102, 103, 104, 105, 106, 107, 108, 109, 110, 111, 112, 113, 114, 115, 116, 117, 118, 119, 120, 121, 122, 123] (by decide +kernel) (by decide +kernel)
set_option maxRecDepth 20000 in
theorem gX10_load_X10_isBroken : GoodIn wsX10_load (wsV RX10 145 RX10 yX10_isBroken wsX10_isBroken) := goodIn_app (goodIn_of _ (by decide +kernel)) ggX10_load_X10_isBroken
set_option maxRecDepth 20000 in
theorem ggX10_load_X10_sizeAt : GoodIn wsX10_load wsX10_sizeAt := goodIn_r _ [76, 42, 43, 44, 6, 45, 11, 98, 99, 100, 101, 102, 103, 104, 105, 106, 107, 108, 109, 110, 111, 112, 113, 114, 115, 116, 117, 118, 119, 120, 121, 122, 123] (by decide +kernel) (by decide +kernel)
set_option maxRecDepth 20000 in
theorem gX10_load_X10_sizeAt : GoodIn wsX10_load (wsV RX10 126 RX10 yX10_sizeAt wsX10_sizeAt) := goodIn_app (goodIn_of _ (by decide +kernel)) ggX10_load_X10_sizeAt
set_option maxRecDepth 20000 in
theorem ggX10_load_X10_intOf : GoodIn wsX10_load wsX10_intOf := goodIn_r _ [80, 81, 82, 83, 6, 84, 11, 51, 52, 53, 54, 50, 55, 35, 36, 37, 38, 39, 40, 41, 42, 43, 44, 45, 31, 32, 33, 34, 30, 98, 99, 100, 101, 102, 103, 104, 105, 106, 107, 108, 109, 110, 111, 112, 113, 114, 115, 116, 117, 118, 119, 120, 121, 122, 123] (by decide +kernel) (by decide +kernel)
set_option maxRecDepth 20000 in
theorem gX10_load_X10_intOf : GoodIn wsX10_load (wsV RX10 177 RX10 yX10_intOf wsX10_intOf) := goodIn_app (goodIn_of _ (by decide +kernel)) ggX10_load_X10_intOf
set_option maxRecDepth 20000 in
theorem ggX10_load_X10_fill : GoodIn wsX10_load wsX10_fill := goodIn_r _ [88, 89, 90, 91, 92, 93, 73, 74, 75, 6, 76, 42, 43, 44, 45, 11, 81, 82, 83, 84, 51, 52, 53, 54, 50, 55, 35, 36, 37, 38, 39, 40, 41, 31, 32, 33, 34, 30, 94, 95, 96, 97, 98, 99, 100, 101, 102, 103, 104, 105, 106, 107, 108, 109, 110, 111, 112, 113, 114, 115, 116, 117, 118, 119, 120, 121, 122, 123] (by decide +kernel) (by decide +kernel)
set_option maxRecDepth 20000 in
theorem gX10_load_X10_fill : GoodIn wsX10_load (wsV RX10 181 RX10 yX10_fill wsX10_fill) := goodIn_app (goodIn_of _ (by decide +kernel)) ggX10_load_X10_fill
theorem dX10_load_0 : decode cX10_load 0 = .ok (.aload_n 0, 1) := by decide +kernel
theorem dX10_load_1 : decode cX10_load 1 = .ok (.invokevirtual 139, 3) := by decide +kernel
theorem dX10_load_4 : decode cX10_load 4 = .ok (.istore_n 1, 1) := by decide +kernel
theorem dX10_load_5 : decode cX10_load 5 = .ok (.iload_n 1, 1) := by decide +kernel
theorem dX10_load_6 : decode cX10_load 6 = .ok (.ifCond .ge 5, 3) := by decide +kernel
theorem dX10_load_9 : decode cX10_load 9 = .ok (.iload_n 1, 1) := by decide +kernel
theorem dX10_load_10 : decode cX10_load 10 = .ok (.ireturn, 1) := by decide +kernel
theorem dX10_load_11 : decode cX10_load 11 = .ok (.aload_n 0, 1) := by decide +kernel
theorem dX10_load_12 : decode cX10_load 12 = .ok (.iload_n 1, 1) := by decide +kernel
theorem dX10_load_13 : decode cX10_load 13 = .ok (.invokevirtual 123, 3) := by decide +kernel
theorem dX10_load_16 : decode cX10_load 16 = .ok (.ifCond .ne 11, 3) := by decide +kernel
theorem dX10_load_19 : decode cX10_load 19 = .ok (.aload_n 0, 1) := by decide +kernel
theorem dX10_load_20 : decode cX10_load 20 = .ok (.iload_n 1, 1) := by decide +kernel
theorem dX10_load_21 : decode cX10_load 21 = .ok (.invokevirtual 145, 3) := by decide +kernel
theorem dX10_load_24 : decode cX10_load 24 = .ok (.ifCond .eq 19, 3) := by decide +kernel
theorem dX10_load_27 : decode cX10_load 27 = .ok (.aload_n 0, 1) := by decide +kernel
theorem dX10_load_28 : decode cX10_load 28 = .ok (.iload_n 1, 1) := by decide +kernel
theorem dX10_load_29 : decode cX10_load 29 = .ok (.invokevirtual 123, 3) := by decide +kernel
theorem dX10_load_32 : decode cX10_load 32 = .ok (.ifCond .eq 8, 3) := by decide +kernel
theorem dX10_load_35 : decode cX10_load 35 = .ok (.bipush (-7), 2) := by decide +kernel
theorem dX10_load_37 : decode cX10_load 37 = .ok (.goto 5, 3) := by decide +kernel
theorem dX10_load_40 : decode cX10_load 40 = .ok (.bipush (-9), 2) := by decide +kernel
theorem dX10_load_42 : decode cX10_load 42 = .ok (.ireturn, 1) := by decide +kernel
theorem dX10_load_43 : decode cX10_load 43 = .ok (.aload_n 0, 1) := by decide +kernel
theorem dX10_load_44 : decode cX10_load 44 = .ok (.iload_n 1, 1) := by decide +kernel
theorem dX10_load_45 : decode cX10_load 45 = .ok (.invokevirtual 126, 3) := by decide +kernel
theorem dX10_load_48 : decode cX10_load 48 = .ok (.istore_n 2, 1) := by decide +kernel
theorem dX10_load_49 : decode cX10_load 49 = .ok (.iconst 0, 1) := by decide +kernel
theorem dX10_load_50 : decode cX10_load 50 = .ok (.istore_n 3, 1) := by decide +kernel
theorem dX10_load_51 : decode cX10_load 51 = .ok (.iload_n 3, 1) := by decide +kernel
theorem dX10_load_52 : decode cX10_load 52 = .ok (.bipush 28, 2) := by decide +kernel
theorem dX10_load_54 : decode cX10_load 54 = .ok (.if_icmp .gt 28, 3) := by decide +kernel
theorem dX10_load_57 : decode cX10_load 57 = .ok (.iload_n 3, 1) := by decide +kernel
theorem dX10_load_58 : decode cX10_load 58 = .ok (.bipush 20, 2) := by decide +kernel
theorem dX10_load_60 : decode cX10_load 60 = .ok (.iadd, 1) := by decide +kernel
theorem dX10_load_61 : decode cX10_load 61 = .ok (.iload_n 2, 1) := by decide +kernel
theorem dX10_load_62 : decode cX10_load 62 = .ok (.if_icmp .gt 20, 3) := by decide +kernel
theorem dX10_load_65 : decode cX10_load 65 = .ok (.aload_n 0, 1) := by decide +kernel
theorem dX10_load_66 : decode cX10_load 66 = .ok (.iload_n 1, 1) := by decide +kernel
theorem dX10_load_67 : decode cX10_load 67 = .ok (.iload_n 3, 1) := by decide +kernel
theorem dX10_load_68 : decode cX10_load 68 = .ok (.invokevirtual 177, 3) := by decide +kernel
theorem dX10_load_71 : decode cX10_load 71 = .ok (.ldc 180, 2) := by decide +kernel
theorem dX10_load_73 : decode cX10_load 73 = .ok (.if_icmp .eq 9, 3) := by decide +kernel
theorem dX10_load_76 : decode cX10_load 76 = .ok (.iinc 3 4, 3) := by decide +kernel
theorem dX10_load_79 : decode cX10_load 79 = .ok (.goto (-28), 3) := by decide +kernel
theorem dX10_load_82 : decode cX10_load 82 = .ok (.iload_n 3, 1) := by decide +kernel
theorem dX10_load_83 : decode cX10_load 83 = .ok (.bipush 28, 2) := by decide +kernel
theorem dX10_load_85 : decode cX10_load 85 = .ok (.if_icmp .gt 11, 3) := by decide +kernel
theorem dX10_load_88 : decode cX10_load 88 = .ok (.iload_n 3, 1) := by decide +kernel
theorem dX10_load_89 : decode cX10_load 89 = .ok (.bipush 20, 2) := by decide +kernel
theorem dX10_load_91 : decode cX10_load 91 = .ok (.iadd, 1) := by decide +kernel
theorem dX10_load_92 : decode cX10_load 92 = .ok (.iload_n 2, 1) := by decide +kernel
theorem dX10_load_93 : decode cX10_load 93 = .ok (.if_icmp .le 6, 3) := by decide +kernel
theorem dX10_load_96 : decode cX10_load 96 = .ok (.bipush (-11), 2) := by decide +kernel
theorem dX10_load_98 : decode cX10_load 98 = .ok (.ireturn, 1) := by decide +kernel
theorem dX10_load_99 : decode cX10_load 99 = .ok (.aload_n 0, 1) := by decide +kernel
theorem dX10_load_100 : decode cX10_load 100 = .ok (.iload_n 1, 1) := by decide +kernel
theorem dX10_load_101 : decode cX10_load 101 = .ok (.iload_n 3, 1) := by decide +kernel
theorem dX10_load_102 : decode cX10_load 102 = .ok (.iconst 4, 1) := by decide +kernel
theorem dX10_load_103 : decode cX10_load 103 = .ok (.iadd, 1) := by decide +kernel
theorem dX10_load_104 : decode cX10_load 104 = .ok (.invokevirtual 177, 3) := by decide +kernel
theorem dX10_load_107 : decode cX10_load 107 = .ok (.istore 4, 2) := by decide +kernel
theorem dX10_load_109 : decode cX10_load 109 = .ok (.aload_n 0, 1) := by decide +kernel
theorem dX10_load_110 : decode cX10_load 110 = .ok (.iload_n 1, 1) := by decide +kernel
theorem dX10_load_111 : decode cX10_load 111 = .ok (.iload_n 3, 1) := by decide +kernel
theorem dX10_load_112 : decode cX10_load 112 = .ok (.bipush 8, 2) := by decide +kernel
theorem dX10_load_114 : decode cX10_load 114 = .ok (.iadd, 1) := by decide +kernel
theorem dX10_load_115 : decode cX10_load 115 = .ok (.invokevirtual 177, 3) := by decide +kernel
theorem dX10_load_118 : decode cX10_load 118 = .ok (.istore 5, 2) := by decide +kernel
theorem dX10_load_120 : decode cX10_load 120 = .ok (.aload_n 0, 1) := by decide +kernel
theorem dX10_load_121 : decode cX10_load 121 = .ok (.iload_n 1, 1) := by decide +kernel
theorem dX10_load_122 : decode cX10_load 122 = .ok (.iload_n 3, 1) := by decide +kernel
theorem dX10_load_123 : decode cX10_load 123 = .ok (.bipush 12, 2) := by decide +kernel
theorem dX10_load_125 : decode cX10_load 125 = .ok (.iadd, 1) := by decide +kernel
theorem dX10_load_126 : decode cX10_load 126 = .ok (.invokevirtual 177, 3) := by decide +kernel
theorem dX10_load_129 : decode cX10_load 129 = .ok (.istore 6, 2) := by decide +kernel
theorem dX10_load_131 : decode cX10_load 131 = .ok (.aload_n 0, 1) := by decide +kernel
theorem dX10_load_132 : decode cX10_load 132 = .ok (.iload_n 1, 1) := by decide +kernel
theorem dX10_load_133 : decode cX10_load 133 = .ok (.iload_n 3, 1) := by decide +kernel
theorem dX10_load_134 : decode cX10_load 134 = .ok (.bipush 16, 2) := by decide +kernel
theorem dX10_load_136 : decode cX10_load 136 = .ok (.iadd, 1) := by decide +kernel
theorem dX10_load_137 : decode cX10_load 137 = .ok (.invokevirtual 177, 3) := by decide +kernel
theorem dX10_load_140 : decode cX10_load 140 = .ok (.istore 7, 2) := by decide +kernel
theorem dX10_load_142 : decode cX10_load 142 = .ok (.ldc 180, 2) := by decide +kernel
theorem dX10_load_144 : decode cX10_load 144 = .ok (.iload 4, 2) := by decide +kernel
theorem dX10_load_146 : decode cX10_load 146 = .ok (.iadd, 1) := by decide +kernel
theorem dX10_load_147 : decode cX10_load 147 = .ok (.iload 5, 2) := by decide +kernel
theorem dX10_load_149 : decode cX10_load 149 = .ok (.iadd, 1) := by decide +kernel
theorem dX10_load_150 : decode cX10_load 150 = .ok (.ifCond .ne 26, 3) := by decide +kernel
theorem dX10_load_153 : decode cX10_load 153 = .ok (.iload 4, 2) := by decide +kernel
theorem dX10_load_155 : decode cX10_load 155 = .ok (.bipush (-4), 2) := by decide +kernel
theorem dX10_load_157 : decode cX10_load 157 = .ok (.iand, 1) := by decide +kernel
theorem dX10_load_158 : decode cX10_load 158 = .ok (.ifCond .ne 18, 3) := by decide +kernel
theorem dX10_load_161 : decode cX10_load 161 = .ok (.iload 4, 2) := by decide +kernel
theorem dX10_load_163 : decode cX10_load 163 = .ok (.iconst 1, 1) := by decide +kernel
theorem dX10_load_164 : decode cX10_load 164 = .ok (.iand, 1) := by decide +kernel
theorem dX10_load_165 : decode cX10_load 165 = .ok (.ifCond .eq 14, 3) := by decide +kernel
theorem dX10_load_168 : decode cX10_load 168 = .ok (.iload 6, 2) := by decide +kernel
theorem dX10_load_170 : decode cX10_load 170 = .ok (.bipush 16, 2) := by decide +kernel
theorem dX10_load_172 : decode cX10_load 172 = .ok (.irem, 1) := by decide +kernel
theorem dX10_load_173 : decode cX10_load 173 = .ok (.ifCond .eq 6, 3) := by decide +kernel
theorem dX10_load_176 : decode cX10_load 176 = .ok (.bipush (-11), 2) := by decide +kernel
theorem dX10_load_178 : decode cX10_load 178 = .ok (.ireturn, 1) := by decide +kernel
theorem dX10_load_179 : decode cX10_load 179 = .ok (.iload 6, 2) := by decide +kernel
theorem dX10_load_181 : decode cX10_load 181 = .ok (.bipush 64, 2) := by decide +kernel
theorem dX10_load_183 : decode cX10_load 183 = .ok (.if_icmp .lt 29, 3) := by decide +kernel
theorem dX10_load_186 : decode cX10_load 186 = .ok (.iload 6, 2) := by decide +kernel
theorem dX10_load_188 : decode cX10_load 188 = .ok (.sipush 1024, 3) := by decide +kernel
theorem dX10_load_191 : decode cX10_load 191 = .ok (.iload_n 2, 1) := by decide +kernel
theorem dX10_load_192 : decode cX10_load 192 = .ok (.isub, 1) := by decide +kernel
theorem dX10_load_193 : decode cX10_load 193 = .ok (.if_icmp .gt 19, 3) := by decide +kernel
theorem dX10_load_196 : decode cX10_load 196 = .ok (.iload 7, 2) := by decide +kernel
theorem dX10_load_198 : decode cX10_load 198 = .ok (.iload 6, 2) := by decide +kernel
theorem dX10_load_200 : decode cX10_load 200 = .ok (.if_icmp .lt 12, 3) := by decide +kernel
theorem dX10_load_203 : decode cX10_load 203 = .ok (.iload 7, 2) := by decide +kernel
theorem dX10_load_205 : decode cX10_load 205 = .ok (.iload 6, 2) := by decide +kernel
theorem dX10_load_207 : decode cX10_load 207 = .ok (.iload_n 2, 1) := by decide +kernel
theorem dX10_load_208 : decode cX10_load 208 = .ok (.iadd, 1) := by decide +kernel
theorem dX10_load_209 : decode cX10_load 209 = .ok (.if_icmp .lt 6, 3) := by decide +kernel
theorem dX10_load_212 : decode cX10_load 212 = .ok (.bipush (-12), 2) := by decide +kernel
theorem dX10_load_214 : decode cX10_load 214 = .ok (.ireturn, 1) := by decide +kernel
theorem dX10_load_215 : decode cX10_load 215 = .ok (.aload_n 0, 1) := by decide +kernel
theorem dX10_load_216 : decode cX10_load 216 = .ok (.iload_n 1, 1) := by decide +kernel
theorem dX10_load_217 : decode cX10_load 217 = .ok (.iload 6, 2) := by decide +kernel
theorem dX10_load_219 : decode cX10_load 219 = .ok (.iload 4, 2) := by decide +kernel
theorem dX10_load_221 : decode cX10_load 221 = .ok (.invokevirtual 181, 3) := by decide +kernel
theorem dX10_load_224 : decode cX10_load 224 = .ok (.aload_n 0, 1) := by decide +kernel
theorem dX10_load_225 : decode cX10_load 225 = .ok (.iload 7, 2) := by decide +kernel
theorem dX10_load_227 : decode cX10_load 227 = .ok (.putfield 16, 3) := by decide +kernel
theorem dX10_load_230 : decode cX10_load 230 = .ok (.iconst 0, 1) := by decide +kernel
theorem dX10_load_231 : decode cX10_load 231 = .ok (.ireturn, 1) := by decide +kernel
set_option maxRecDepth 20000 in
theorem ggX10_boot_X10_volume : GoodIn wsX10_boot wsX10_volume := goodIn_r _ [9, 10, 11, 12, 13, 14, 15, 16, 17, 18, 19, 20, 21, 8, 22, 23, 24, 25, 26, 130, 131, 132, 133, 134, 135, 136, 137, 138, 139, 140, 141, 142, 143, 144, 145, 146, 147, 148, 149, 150, 151, 152, 153, 154, 155] (by decide +kernel) (by decide +kernel)
set_option maxRecDepth 20000 in
theorem gX10_boot_X10_volume : GoodIn wsX10_boot (wsV RX10 132 RX10 yX10_volume wsX10_volume) := goodIn_app (goodIn_of _ (by decide +kernel)) ggX10_boot_X10_volume
set_option maxRecDepth 20000 in
theorem ggX10_boot_X10_settings : GoodIn wsX10_boot wsX10_settings := goodIn_r _ [30, 31, 32, 2, 3, 33, 34, 35, 36, 8, 37, 15, 38, 39, 10, 40, 41, 42, 43, 44, 45, 46, 47, 48, 49, 50, 51, 52, 53, 54, 55, 16, 56, 57, 58, 59, 60, 61, 62, 63, 17, 13, 14, 64, 65, 66, 67, 68, 69, 70, 71, 12, 72, 73, 74, 75, 18, 76, 77, 78, 79, 80, 81, 82, 83, 84, 85, 86, 87, 88, 89, 90, 91, 92, 93, 94, 95, 96, 97, 98, 99, 100, 101, 102, 103, 104, 1, 4, 105, 130, 131, 132, 133, 134, 135, 136, 137, 138, 139, 140, 141, 142, 143, 144, 145, 146, 147, 148, 149, 150, 151, 152, 153, 154, 155] (by decide +kernel) (by decide +kernel)
set_option maxRecDepth 20000 in
theorem gX10_boot_X10_settings : GoodIn wsX10_boot (wsV RX10 185 RX10 yX10_settings wsX10_settings) := goodIn_app (goodIn_of _ (by decide +kernel)) ggX10_boot_X10_settings
set_option maxRecDepth 20000 in
theorem ggX10_boot_X10_take : GoodIn wsX10_boot wsX10_take := goodIn_r _ [109, 31, 32, 130, 131, 132, 133, 134, 135, 136, 137, 138, 139, 140, 141, 142, 143, 144, 145, 146, 147, 148, 149, 150, 151, 152, 153, 154, 155] (by decide +kernel) (by decide +kernel)
set_option maxRecDepth 20000 in
theorem gX10_boot_X10_take : GoodIn wsX10_boot (wsV RX10 135 RX10 yX10_take wsX10_take) := goodIn_app (goodIn_of _ (by decide +kernel)) ggX10_boot_X10_take
set_option maxRecDepth 20000 in
theorem ggX10_boot_X10_load : GoodIn wsX10_boot wsX10_load := goodIn_r _ [113, 114, 115, 34, 35, 36, 8, 37, 15, 38, 39, 10, 40, 41, 42, 43, 32, 31, 44, 45, 46, 47, 48, 49, 50, 51, 52, 53, 54, 55, 16, 56, 57, 58, 59, 60, 61, 62, 63, 17, 13, 14, 64, 65, 66, 67, 68, 69, 70, 71, 12, 72, 73, 74, 75, 18, 76, 77, 78, 79, 80, 81, 82, 83, 84, 85, 86, 87, 88, 89, 90, 91, 92, 93, 94, 95, 96, 116, 117, 118, 119, 97, 98, 99, 100, 120, 121, 122, 123, 124, 33, 125, 11, 105, 126, 127, 128, 129, 130, 131, 132, 133, 134, 135, 136, 137, 138, 139, 140, 141, 142, 143, 144, 145, 146, 147, 148, 149, 150, 151, 152, 153, 154, 155] (by decide +kernel) (by decide +kernel)
set_option maxRecDepth 20000 in
theorem gX10_boot_X10_load : GoodIn wsX10_boot (wsV RX10 188 RX10 yX10_load wsX10_load) := goodIn_app (goodIn_of _ (by decide +kernel)) ggX10_boot_X10_load
theorem dX10_boot_0 : decode cX10_boot 0 = .ok (.aload_n 0, 1) := by decide +kernel
theorem dX10_boot_1 : decode cX10_boot 1 = .ok (.invokevirtual 132, 3) := by decide +kernel
theorem dX10_boot_4 : decode cX10_boot 4 = .ok (.istore_n 1, 1) := by decide +kernel
theorem dX10_boot_5 : decode cX10_boot 5 = .ok (.iload_n 1, 1) := by decide +kernel
theorem dX10_boot_6 : decode cX10_boot 6 = .ok (.ifCond .ge 5, 3) := by decide +kernel
theorem dX10_boot_9 : decode cX10_boot 9 = .ok (.iload_n 1, 1) := by decide +kernel
theorem dX10_boot_10 : decode cX10_boot 10 = .ok (.ireturn, 1) := by decide +kernel
theorem dX10_boot_11 : decode cX10_boot 11 = .ok (.aload_n 0, 1) := by decide +kernel
theorem dX10_boot_12 : decode cX10_boot 12 = .ok (.invokevirtual 185, 3) := by decide +kernel
theorem dX10_boot_15 : decode cX10_boot 15 = .ok (.istore_n 2, 1) := by decide +kernel
theorem dX10_boot_16 : decode cX10_boot 16 = .ok (.iload_n 2, 1) := by decide +kernel
theorem dX10_boot_17 : decode cX10_boot 17 = .ok (.ifCond .ge 5, 3) := by decide +kernel
theorem dX10_boot_20 : decode cX10_boot 20 = .ok (.iload_n 2, 1) := by decide +kernel
theorem dX10_boot_21 : decode cX10_boot 21 = .ok (.ireturn, 1) := by decide +kernel
theorem dX10_boot_22 : decode cX10_boot 22 = .ok (.aload_n 0, 1) := by decide +kernel
theorem dX10_boot_23 : decode cX10_boot 23 = .ok (.aload_n 0, 1) := by decide +kernel
theorem dX10_boot_24 : decode cX10_boot 24 = .ok (.getfield 29, 3) := by decide +kernel
theorem dX10_boot_27 : decode cX10_boot 27 = .ok (.aload_n 0, 1) := by decide +kernel
theorem dX10_boot_28 : decode cX10_boot 28 = .ok (.getfield 159, 3) := by decide +kernel
theorem dX10_boot_31 : decode cX10_boot 31 = .ok (.invokevirtual 135, 3) := by decide +kernel
theorem dX10_boot_34 : decode cX10_boot 34 = .ok (.aload_n 0, 1) := by decide +kernel
theorem dX10_boot_35 : decode cX10_boot 35 = .ok (.invokevirtual 188, 3) := by decide +kernel
theorem dX10_boot_38 : decode cX10_boot 38 = .ok (.istore_n 2, 1) := by decide +kernel
theorem dX10_boot_39 : decode cX10_boot 39 = .ok (.iload_n 2, 1) := by decide +kernel
theorem dX10_boot_40 : decode cX10_boot 40 = .ok (.ifCond .ge 37, 3) := by decide +kernel
theorem dX10_boot_43 : decode cX10_boot 43 = .ok (.aload_n 0, 1) := by decide +kernel
theorem dX10_boot_44 : decode cX10_boot 44 = .ok (.getfield 162, 3) := by decide +kernel
theorem dX10_boot_47 : decode cX10_boot 47 = .ok (.ifCond .lt 30, 3) := by decide +kernel
theorem dX10_boot_50 : decode cX10_boot 50 = .ok (.aload_n 0, 1) := by decide +kernel
theorem dX10_boot_51 : decode cX10_boot 51 = .ok (.aload_n 0, 1) := by decide +kernel
theorem dX10_boot_52 : decode cX10_boot 52 = .ok (.getfield 32, 3) := by decide +kernel
theorem dX10_boot_55 : decode cX10_boot 55 = .ok (.aload_n 0, 1) := by decide +kernel

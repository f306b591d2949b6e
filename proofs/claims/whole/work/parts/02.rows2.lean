theorem dX9_load_65 : decode cX9_load 65 = .ok (.aload_n 0, 1) := by decide +kernel
theorem dX9_load_66 : decode cX9_load 66 = .ok (.getfield 42, 3) := by decide +kernel
theorem dX9_load_69 : decode cX9_load 69 = .ok (.getfield 99, 3) := by decide +kernel
theorem dX9_load_72 : decode cX9_load 72 = .ok (.iload_n 3, 1) := by decide +kernel
theorem dX9_load_73 : decode cX9_load 73 = .ok (.invokevirtual 173, 3) := by decide +kernel
theorem dX9_load_76 : decode cX9_load 76 = .ok (.ifCond .ne 6, 3) := by decide +kernel
theorem dX9_load_79 : decode cX9_load 79 = .ok (.bipush (-11), 2) := by decide +kernel
theorem dX9_load_81 : decode cX9_load 81 = .ok (.ireturn, 1) := by decide +kernel
theorem dX9_load_82 : decode cX9_load 82 = .ok (.aload_n 0, 1) := by decide +kernel
theorem dX9_load_83 : decode cX9_load 83 = .ok (.getfield 63, 3) := by decide +kernel
theorem dX9_load_86 : decode cX9_load 86 = .ok (.iload_n 3, 1) := by decide +kernel
theorem dX9_load_87 : decode cX9_load 87 = .ok (.invokevirtual 176, 3) := by decide +kernel
theorem dX9_load_90 : decode cX9_load 90 = .ok (.ifCond .ne 6, 3) := by decide +kernel
theorem dX9_load_93 : decode cX9_load 93 = .ok (.bipush (-12), 2) := by decide +kernel
theorem dX9_load_95 : decode cX9_load 95 = .ok (.ireturn, 1) := by decide +kernel
theorem dX9_load_96 : decode cX9_load 96 = .ok (.aload_n 0, 1) := by decide +kernel
theorem dX9_load_97 : decode cX9_load 97 = .ok (.getfield 18, 3) := by decide +kernel
theorem dX9_load_100 : decode cX9_load 100 = .ok (.invokevirtual 179, 3) := by decide +kernel
theorem dX9_load_103 : decode cX9_load 103 = .ok (.aload_n 0, 1) := by decide +kernel
theorem dX9_load_104 : decode cX9_load 104 = .ok (.iload_n 3, 1) := by decide +kernel
theorem dX9_load_105 : decode cX9_load 105 = .ok (.invokevirtual 182, 3) := by decide +kernel
theorem dX9_load_108 : decode cX9_load 108 = .ok (.aload_n 0, 1) := by decide +kernel
theorem dX9_load_109 : decode cX9_load 109 = .ok (.iload_n 3, 1) := by decide +kernel
theorem dX9_load_110 : decode cX9_load 110 = .ok (.invokevirtual 185, 3) := by decide +kernel
theorem dX9_load_113 : decode cX9_load 113 = .ok (.aload_n 0, 1) := by decide +kernel
theorem dX9_load_114 : decode cX9_load 114 = .ok (.invokevirtual 188, 3) := by decide +kernel
theorem dX9_load_117 : decode cX9_load 117 = .ok (.aload_n 0, 1) := by decide +kernel
theorem dX9_load_118 : decode cX9_load 118 = .ok (.aload_n 0, 1) := by decide +kernel
theorem dX9_load_119 : decode cX9_load 119 = .ok (.getfield 63, 3) := by decide +kernel
theorem dX9_load_122 : decode cX9_load 122 = .ok (.getfield 191, 3) := by decide +kernel
theorem dX9_load_125 : decode cX9_load 125 = .ok (.putfield 75, 3) := by decide +kernel
theorem dX9_load_128 : decode cX9_load 128 = .ok (.iconst 0, 1) := by decide +kernel
theorem dX9_load_129 : decode cX9_load 129 = .ok (.ireturn, 1) := by decide +kernel
set_option maxRecDepth 20000 in
theorem ggX9_copyKernel_X2_byteAt : GoodIn wsX9_copyKernel wsX2_byteAt := goodIn_r _ [10, 11, 12, 13, 14, 9, 15, 16, 17, 18, 19, 20, 21, 22, 23, 24, 25, 48, 49, 50, 51, 52, 53, 54, 55, 56, 57, 58, 59, 60, 61, 62] (by decide +kernel) (by decide +kernel)
set_option maxRecDepth 20000 in
theorem gX9_copyKernel_X2_byteAt : GoodIn wsX9_copyKernel (wsV RX9 103 RX2 yX2_byteAt wsX2_byteAt) := goodIn_app (goodIn_of _ (by decide +kernel)) ggX9_copyKernel_X2_byteAt
set_option maxRecDepth 20000 in
theorem ggX9_copyKernel_X0_put : GoodIn wsX9_copyKernel wsX0_put := goodIn_r _ [29, 25, 62] (by decide +kernel) (by decide +kernel)
set_option maxRecDepth 20000 in
theorem gX9_copyKernel_X0_put : GoodIn wsX9_copyKernel (wsV RX9 78 RX0 yX0_put wsX0_put) := goodIn_app (goodIn_of _ (by decide +kernel)) ggX9_copyKernel_X0_put
theorem dX9_copyKernel_0 : decode cX9_copyKernel 0 = .ok (.iconst 0, 1) := by decide +kernel
theorem dX9_copyKernel_1 : decode cX9_copyKernel 1 = .ok (.istore_n 2, 1) := by decide +kernel
theorem dX9_copyKernel_2 : decode cX9_copyKernel 2 = .ok (.iload_n 2, 1) := by decide +kernel
theorem dX9_copyKernel_3 : decode cX9_copyKernel 3 = .ok (.iload_n 1, 1) := by decide +kernel
theorem dX9_copyKernel_4 : decode cX9_copyKernel 4 = .ok (.if_icmp .ge 39, 3) := by decide +kernel
theorem dX9_copyKernel_7 : decode cX9_copyKernel 7 = .ok (.aload_n 0, 1) := by decide +kernel
theorem dX9_copyKernel_8 : decode cX9_copyKernel 8 = .ok (.getfield 18, 3) := by decide +kernel
theorem dX9_copyKernel_11 : decode cX9_copyKernel 11 = .ok (.aload_n 0, 1) := by decide +kernel
theorem dX9_copyKernel_12 : decode cX9_copyKernel 12 = .ok (.getfield 63, 3) := by decide +kernel
theorem dX9_copyKernel_15 : decode cX9_copyKernel 15 = .ok (.getfield 194, 3) := by decide +kernel
theorem dX9_copyKernel_18 : decode cX9_copyKernel 18 = .ok (.iload_n 2, 1) := by decide +kernel
theorem dX9_copyKernel_19 : decode cX9_copyKernel 19 = .ok (.iadd, 1) := by decide +kernel
theorem dX9_copyKernel_20 : decode cX9_copyKernel 20 = .ok (.aload_n 0, 1) := by decide +kernel
theorem dX9_copyKernel_21 : decode cX9_copyKernel 21 = .ok (.getfield 42, 3) := by decide +kernel
theorem dX9_copyKernel_24 : decode cX9_copyKernel 24 = .ok (.getfield 99, 3) := by decide +kernel
theorem dX9_copyKernel_27 : decode cX9_copyKernel 27 = .ok (.iload_n 2, 1) := by decide +kernel
theorem dX9_copyKernel_28 : decode cX9_copyKernel 28 = .ok (.invokevirtual 103, 3) := by decide +kernel
theorem dX9_copyKernel_31 : decode cX9_copyKernel 31 = .ok (.i2l, 1) := by decide +kernel
theorem dX9_copyKernel_32 : decode cX9_copyKernel 32 = .ok (.iconst 1, 1) := by decide +kernel
theorem dX9_copyKernel_33 : decode cX9_copyKernel 33 = .ok (.invokevirtual 78, 3) := by decide +kernel
theorem dX9_copyKernel_36 : decode cX9_copyKernel 36 = .ok (.pop, 1) := by decide +kernel
theorem dX9_copyKernel_37 : decode cX9_copyKernel 37 = .ok (.iinc 2 1, 3) := by decide +kernel
theorem dX9_copyKernel_40 : decode cX9_copyKernel 40 = .ok (.goto (-38), 3) := by decide +kernel
theorem dX9_copyKernel_43 : decode cX9_copyKernel 43 = .ok (.return_, 1) := by decide +kernel
set_option maxRecDepth 20000 in
theorem ggX9_writeInformation_X4_wantsMemoryBytes : GoodIn wsX9_writeInformation wsX4_wantsMemoryBytes := goodIn_r _ [16, 17, 42, 43, 44] (by decide +kernel) (by decide +kernel)
set_option maxRecDepth 20000 in
theorem gX9_writeInformation_X4_wantsMemoryBytes : GoodIn wsX9_writeInformation (wsV RX9 197 RX4 yX4_wantsMemoryBytes wsX4_wantsMemoryBytes) := goodIn_app (goodIn_of _ (by decide +kernel)) ggX9_writeInformation_X4_wantsMemoryBytes
set_option maxRecDepth 20000 in
theorem ggX9_writeInformation_X0_put : GoodIn wsX9_writeInformation wsX0_put := goodIn_r _ [22, 23, 54] (by decide +kernel) (by decide +kernel)
set_option maxRecDepth 20000 in
theorem gX9_writeInformation_X0_put : GoodIn wsX9_writeInformation (wsV RX9 78 RX0 yX0_put wsX0_put) := goodIn_app (goodIn_of _ (by decide +kernel)) ggX9_writeInformation_X0_put
theorem dX9_writeInformation_0 : decode cX9_writeInformation 0 = .ok (.aload_n 0, 1) := by decide +kernel
theorem dX9_writeInformation_1 : decode cX9_writeInformation 1 = .ok (.getfield 63, 3) := by decide +kernel
theorem dX9_writeInformation_4 : decode cX9_writeInformation 4 = .ok (.invokevirtual 197, 3) := by decide +kernel
theorem dX9_writeInformation_7 : decode cX9_writeInformation 7 = .ok (.ifCond .eq 9, 3) := by decide +kernel
theorem dX9_writeInformation_10 : decode cX9_writeInformation 10 = .ok (.sipush 1024, 3) := by decide +kernel
theorem dX9_writeInformation_13 : decode cX9_writeInformation 13 = .ok (.goto 4, 3) := by decide +kernel
theorem dX9_writeInformation_16 : decode cX9_writeInformation 16 = .ok (.iconst 0, 1) := by decide +kernel
theorem dX9_writeInformation_17 : decode cX9_writeInformation 17 = .ok (.istore_n 2, 1) := by decide +kernel
theorem dX9_writeInformation_18 : decode cX9_writeInformation 18 = .ok (.aload_n 0, 1) := by decide +kernel
theorem dX9_writeInformation_19 : decode cX9_writeInformation 19 = .ok (.getfield 56, 3) := by decide +kernel
theorem dX9_writeInformation_22 : decode cX9_writeInformation 22 = .ok (.getfield 201, 3) := by decide +kernel
theorem dX9_writeInformation_25 : decode cX9_writeInformation 25 = .ok (.getfield 170, 3) := by decide +kernel
theorem dX9_writeInformation_28 : decode cX9_writeInformation 28 = .ok (.aload_n 0, 1) := by decide +kernel
theorem dX9_writeInformation_29 : decode cX9_writeInformation 29 = .ok (.getfield 56, 3) := by decide +kernel
theorem dX9_writeInformation_32 : decode cX9_writeInformation 32 = .ok (.getfield 201, 3) := by decide +kernel
theorem dX9_writeInformation_35 : decode cX9_writeInformation 35 = .ok (.getfield 167, 3) := by decide +kernel
theorem dX9_writeInformation_38 : decode cX9_writeInformation 38 = .ok (.if_icmp .le 8, 3) := by decide +kernel
theorem dX9_writeInformation_41 : decode cX9_writeInformation 41 = .ok (.bipush 32, 2) := by decide +kernel
theorem dX9_writeInformation_43 : decode cX9_writeInformation 43 = .ok (.goto 4, 3) := by decide +kernel
theorem dX9_writeInformation_46 : decode cX9_writeInformation 46 = .ok (.iconst 0, 1) := by decide +kernel
theorem dX9_writeInformation_47 : decode cX9_writeInformation 47 = .ok (.istore_n 3, 1) := by decide +kernel
theorem dX9_writeInformation_48 : decode cX9_writeInformation 48 = .ok (.aload_n 0, 1) := by decide +kernel
theorem dX9_writeInformation_49 : decode cX9_writeInformation 49 = .ok (.getfield 63, 3) := by decide +kernel
theorem dX9_writeInformation_52 : decode cX9_writeInformation 52 = .ok (.getfield 194, 3) := by decide +kernel
theorem dX9_writeInformation_55 : decode cX9_writeInformation 55 = .ok (.iload_n 1, 1) := by decide +kernel
theorem dX9_writeInformation_56 : decode cX9_writeInformation 56 = .ok (.iadd, 1) := by decide +kernel
theorem dX9_writeInformation_57 : decode cX9_writeInformation 57 = .ok (.istore 4, 2) := by decide +kernel
theorem dX9_writeInformation_59 : decode cX9_writeInformation 59 = .ok (.aload_n 0, 1) := by decide +kernel
theorem dX9_writeInformation_60 : decode cX9_writeInformation 60 = .ok (.getfield 18, 3) := by decide +kernel
theorem dX9_writeInformation_63 : decode cX9_writeInformation 63 = .ok (.iconst 0, 1) := by decide +kernel
theorem dX9_writeInformation_64 : decode cX9_writeInformation 64 = .ok (.ldc2_w 204, 3) := by decide +kernel
theorem dX9_writeInformation_67 : decode cX9_writeInformation 67 = .ok (.iconst 4, 1) := by decide +kernel
theorem dX9_writeInformation_68 : decode cX9_writeInformation 68 = .ok (.invokevirtual 78, 3) := by decide +kernel
theorem dX9_writeInformation_71 : decode cX9_writeInformation 71 = .ok (.pop, 1) := by decide +kernel
theorem dX9_writeInformation_72 : decode cX9_writeInformation 72 = .ok (.aload_n 0, 1) := by decide +kernel
theorem dX9_writeInformation_73 : decode cX9_writeInformation 73 = .ok (.getfield 18, 3) := by decide +kernel
theorem dX9_writeInformation_76 : decode cX9_writeInformation 76 = .ok (.iconst 4, 1) := by decide +kernel
theorem dX9_writeInformation_77 : decode cX9_writeInformation 77 = .ok (.iload_n 2, 1) := by decide +kernel
theorem dX9_writeInformation_78 : decode cX9_writeInformation 78 = .ok (.i2l, 1) := by decide +kernel
theorem dX9_writeInformation_79 : decode cX9_writeInformation 79 = .ok (.iconst 4, 1) := by decide +kernel
theorem dX9_writeInformation_80 : decode cX9_writeInformation 80 = .ok (.invokevirtual 78, 3) := by decide +kernel
theorem dX9_writeInformation_83 : decode cX9_writeInformation 83 = .ok (.pop, 1) := by decide +kernel
theorem dX9_writeInformation_84 : decode cX9_writeInformation 84 = .ok (.aload_n 0, 1) := by decide +kernel
theorem dX9_writeInformation_85 : decode cX9_writeInformation 85 = .ok (.getfield 18, 3) := by decide +kernel
theorem dX9_writeInformation_88 : decode cX9_writeInformation 88 = .ok (.bipush 8, 2) := by decide +kernel
theorem dX9_writeInformation_90 : decode cX9_writeInformation 90 = .ok (.iload_n 3, 1) := by decide +kernel
theorem dX9_writeInformation_91 : decode cX9_writeInformation 91 = .ok (.i2l, 1) := by decide +kernel
theorem dX9_writeInformation_92 : decode cX9_writeInformation 92 = .ok (.iconst 4, 1) := by decide +kernel
theorem dX9_writeInformation_93 : decode cX9_writeInformation 93 = .ok (.invokevirtual 78, 3) := by decide +kernel
theorem dX9_writeInformation_96 : decode cX9_writeInformation 96 = .ok (.pop, 1) := by decide +kernel
theorem dX9_writeInformation_97 : decode cX9_writeInformation 97 = .ok (.aload_n 0, 1) := by decide +kernel
theorem dX9_writeInformation_98 : decode cX9_writeInformation 98 = .ok (.getfield 18, 3) := by decide +kernel
theorem dX9_writeInformation_101 : decode cX9_writeInformation 101 = .ok (.bipush 12, 2) := by decide +kernel
theorem dX9_writeInformation_103 : decode cX9_writeInformation 103 = .ok (.aload_n 0, 1) := by decide +kernel
theorem dX9_writeInformation_104 : decode cX9_writeInformation 104 = .ok (.getfield 63, 3) := by decide +kernel
theorem dX9_writeInformation_107 : decode cX9_writeInformation 107 = .ok (.getfield 194, 3) := by decide +kernel
theorem dX9_writeInformation_110 : decode cX9_writeInformation 110 = .ok (.i2l, 1) := by decide +kernel
theorem dX9_writeInformation_111 : decode cX9_writeInformation 111 = .ok (.iconst 4, 1) := by decide +kernel
theorem dX9_writeInformation_112 : decode cX9_writeInformation 112 = .ok (.invokevirtual 78, 3) := by decide +kernel
theorem dX9_writeInformation_115 : decode cX9_writeInformation 115 = .ok (.pop, 1) := by decide +kernel
theorem dX9_writeInformation_116 : decode cX9_writeInformation 116 = .ok (.aload_n 0, 1) := by decide +kernel
theorem dX9_writeInformation_117 : decode cX9_writeInformation 117 = .ok (.getfield 18, 3) := by decide +kernel
theorem dX9_writeInformation_120 : decode cX9_writeInformation 120 = .ok (.bipush 16, 2) := by decide +kernel
theorem dX9_writeInformation_122 : decode cX9_writeInformation 122 = .ok (.iload 4, 2) := by decide +kernel
theorem dX9_writeInformation_124 : decode cX9_writeInformation 124 = .ok (.i2l, 1) := by decide +kernel
theorem dX9_writeInformation_125 : decode cX9_writeInformation 125 = .ok (.iconst 4, 1) := by decide +kernel
theorem dX9_writeInformation_126 : decode cX9_writeInformation 126 = .ok (.invokevirtual 78, 3) := by decide +kernel
theorem dX9_writeInformation_129 : decode cX9_writeInformation 129 = .ok (.pop, 1) := by decide +kernel
theorem dX9_writeInformation_130 : decode cX9_writeInformation 130 = .ok (.aload_n 0, 1) := by decide +kernel
theorem dX9_writeInformation_131 : decode cX9_writeInformation 131 = .ok (.getfield 18, 3) := by decide +kernel
theorem dX9_writeInformation_134 : decode cX9_writeInformation 134 = .ok (.bipush 20, 2) := by decide +kernel
theorem dX9_writeInformation_136 : decode cX9_writeInformation 136 = .ok (.aload_n 0, 1) := by decide +kernel
theorem dX9_writeInformation_137 : decode cX9_writeInformation 137 = .ok (.getfield 26, 3) := by decide +kernel
theorem dX9_writeInformation_140 : decode cX9_writeInformation 140 = .ok (.getfield 206, 3) := by decide +kernel
theorem dX9_writeInformation_143 : decode cX9_writeInformation 143 = .ok (.i2l, 1) := by decide +kernel
theorem dX9_writeInformation_144 : decode cX9_writeInformation 144 = .ok (.iconst 4, 1) := by decide +kernel
theorem dX9_writeInformation_145 : decode cX9_writeInformation 145 = .ok (.invokevirtual 78, 3) := by decide +kernel
theorem dX9_writeInformation_148 : decode cX9_writeInformation 148 = .ok (.pop, 1) := by decide +kernel
theorem dX9_writeInformation_149 : decode cX9_writeInformation 149 = .ok (.aload_n 0, 1) := by decide +kernel
theorem dX9_writeInformation_150 : decode cX9_writeInformation 150 = .ok (.getfield 18, 3) := by decide +kernel
theorem dX9_writeInformation_153 : decode cX9_writeInformation 153 = .ok (.bipush 24, 2) := by decide +kernel
theorem dX9_writeInformation_155 : decode cX9_writeInformation 155 = .ok (.ldc 209, 2) := by decide +kernel
theorem dX9_writeInformation_157 : decode cX9_writeInformation 157 = .ok (.iload_n 2, 1) := by decide +kernel
theorem dX9_writeInformation_158 : decode cX9_writeInformation 158 = .ok (.iadd, 1) := by decide +kernel
theorem dX9_writeInformation_159 : decode cX9_writeInformation 159 = .ok (.iload_n 3, 1) := by decide +kernel
theorem dX9_writeInformation_160 : decode cX9_writeInformation 160 = .ok (.iadd, 1) := by decide +kernel
theorem dX9_writeInformation_161 : decode cX9_writeInformation 161 = .ok (.aload_n 0, 1) := by decide +kernel
theorem dX9_writeInformation_162 : decode cX9_writeInformation 162 = .ok (.getfield 63, 3) := by decide +kernel
theorem dX9_writeInformation_165 : decode cX9_writeInformation 165 = .ok (.getfield 194, 3) := by decide +kernel
theorem dX9_writeInformation_168 : decode cX9_writeInformation 168 = .ok (.iadd, 1) := by decide +kernel
theorem dX9_writeInformation_169 : decode cX9_writeInformation 169 = .ok (.iload 4, 2) := by decide +kernel
theorem dX9_writeInformation_171 : decode cX9_writeInformation 171 = .ok (.iadd, 1) := by decide +kernel
theorem dX9_writeInformation_172 : decode cX9_writeInformation 172 = .ok (.aload_n 0, 1) := by decide +kernel
theorem dX9_writeInformation_173 : decode cX9_writeInformation 173 = .ok (.getfield 26, 3) := by decide +kernel
theorem dX9_writeInformation_176 : decode cX9_writeInformation 176 = .ok (.getfield 206, 3) := by decide +kernel
theorem dX9_writeInformation_179 : decode cX9_writeInformation 179 = .ok (.iadd, 1) := by decide +kernel
theorem dX9_writeInformation_180 : decode cX9_writeInformation 180 = .ok (.ineg, 1) := by decide +kernel
theorem dX9_writeInformation_181 : decode cX9_writeInformation 181 = .ok (.i2l, 1) := by decide +kernel
theorem dX9_writeInformation_182 : decode cX9_writeInformation 182 = .ok (.iconst 4, 1) := by decide +kernel
theorem dX9_writeInformation_183 : decode cX9_writeInformation 183 = .ok (.invokevirtual 78, 3) := by decide +kernel
theorem dX9_writeInformation_186 : decode cX9_writeInformation 186 = .ok (.pop, 1) := by decide +kernel
theorem dX9_writeInformation_187 : decode cX9_writeInformation 187 = .ok (.return_, 1) := by decide +kernel
set_option maxRecDepth 20000 in
theorem ggX9_copyArguments_X0_put : GoodIn wsX9_copyArguments wsX0_put := goodIn_r _ [11, 12, 31] (by decide +kernel) (by decide +kernel)
set_option maxRecDepth 20000 in
theorem gX9_copyArguments_X0_put : GoodIn wsX9_copyArguments (wsV RX9 78 RX0 yX0_put wsX0_put) := goodIn_app (goodIn_of _ (by decide +kernel)) ggX9_copyArguments_X0_put
theorem dX9_copyArguments_0 : decode cX9_copyArguments 0 = .ok (.aload_n 0, 1) := by decide +kernel
theorem dX9_copyArguments_1 : decode cX9_copyArguments 1 = .ok (.getfield 56, 3) := by decide +kernel
theorem dX9_copyArguments_4 : decode cX9_copyArguments 4 = .ok (.getfield 201, 3) := by decide +kernel
theorem dX9_copyArguments_7 : decode cX9_copyArguments 7 = .ok (.astore_n 1, 1) := by decide +kernel
theorem dX9_copyArguments_8 : decode cX9_copyArguments 8 = .ok (.aload_n 1, 1) := by decide +kernel
theorem dX9_copyArguments_9 : decode cX9_copyArguments 9 = .ok (.getfield 167, 3) := by decide +kernel
theorem dX9_copyArguments_12 : decode cX9_copyArguments 12 = .ok (.istore_n 2, 1) := by decide +kernel
theorem dX9_copyArguments_13 : decode cX9_copyArguments 13 = .ok (.iload_n 2, 1) := by decide +kernel
theorem dX9_copyArguments_14 : decode cX9_copyArguments 14 = .ok (.aload_n 1, 1) := by decide +kernel
theorem dX9_copyArguments_15 : decode cX9_copyArguments 15 = .ok (.getfield 170, 3) := by decide +kernel
theorem dX9_copyArguments_18 : decode cX9_copyArguments 18 = .ok (.if_icmp .ge 37, 3) := by decide +kernel
theorem dX9_copyArguments_21 : decode cX9_copyArguments 21 = .ok (.aload_n 0, 1) := by decide +kernel
theorem dX9_copyArguments_22 : decode cX9_copyArguments 22 = .ok (.getfield 18, 3) := by decide +kernel
theorem dX9_copyArguments_25 : decode cX9_copyArguments 25 = .ok (.bipush 32, 2) := by decide +kernel
theorem dX9_copyArguments_27 : decode cX9_copyArguments 27 = .ok (.iload_n 2, 1) := by decide +kernel
theorem dX9_copyArguments_28 : decode cX9_copyArguments 28 = .ok (.iadd, 1) := by decide +kernel
theorem dX9_copyArguments_29 : decode cX9_copyArguments 29 = .ok (.aload_n 1, 1) := by decide +kernel
theorem dX9_copyArguments_30 : decode cX9_copyArguments 30 = .ok (.getfield 167, 3) := by decide +kernel
theorem dX9_copyArguments_33 : decode cX9_copyArguments 33 = .ok (.isub, 1) := by decide +kernel
theorem dX9_copyArguments_34 : decode cX9_copyArguments 34 = .ok (.aload_n 0, 1) := by decide +kernel
theorem dX9_copyArguments_35 : decode cX9_copyArguments 35 = .ok (.getfield 56, 3) := by decide +kernel
theorem dX9_copyArguments_38 : decode cX9_copyArguments 38 = .ok (.getfield 164, 3) := by decide +kernel
theorem dX9_copyArguments_41 : decode cX9_copyArguments 41 = .ok (.iload_n 2, 1) := by decide +kernel
theorem dX9_copyArguments_42 : decode cX9_copyArguments 42 = .ok (.iaload, 1) := by decide +kernel
theorem dX9_copyArguments_43 : decode cX9_copyArguments 43 = .ok (.i2l, 1) := by decide +kernel
theorem dX9_copyArguments_44 : decode cX9_copyArguments 44 = .ok (.iconst 1, 1) := by decide +kernel
theorem dX9_copyArguments_45 : decode cX9_copyArguments 45 = .ok (.invokevirtual 78, 3) := by decide +kernel
theorem dX9_copyArguments_48 : decode cX9_copyArguments 48 = .ok (.pop, 1) := by decide +kernel
theorem dX9_copyArguments_49 : decode cX9_copyArguments 49 = .ok (.iinc 2 1, 3) := by decide +kernel
theorem dX9_copyArguments_52 : decode cX9_copyArguments 52 = .ok (.goto (-39), 3) := by decide +kernel
theorem dX9_copyArguments_55 : decode cX9_copyArguments 55 = .ok (.return_, 1) := by decide +kernel
theorem dX10_init_0 : decode cX10_init 0 = .ok (.aload_n 0, 1) := by decide +kernel
theorem dX10_init_1 : decode cX10_init 1 = .ok (.invokespecial 1, 3) := by decide +kernel
theorem dX10_init_4 : decode cX10_init 4 = .ok (.aload_n 0, 1) := by decide +kernel
theorem dX10_init_5 : decode cX10_init 5 = .ok (.sipush 2048, 3) := by decide +kernel
theorem dX10_init_8 : decode cX10_init 8 = .ok (.newarray .int, 2) := by decide +kernel
theorem dX10_init_10 : decode cX10_init 10 = .ok (.putfield 7, 3) := by decide +kernel
theorem dX10_init_13 : decode cX10_init 13 = .ok (.aload_n 0, 1) := by decide +kernel
theorem dX10_init_14 : decode cX10_init 14 = .ok (.sipush 1024, 3) := by decide +kernel
theorem dX10_init_17 : decode cX10_init 17 = .ok (.newarray .int, 2) := by decide +kernel
theorem dX10_init_19 : decode cX10_init 19 = .ok (.putfield 13, 3) := by decide +kernel
theorem dX10_init_22 : decode cX10_init 22 = .ok (.aload_n 0, 1) := by decide +kernel
theorem dX10_init_23 : decode cX10_init 23 = .ok (.iconst (-1), 1) := by decide +kernel
theorem dX10_init_24 : decode cX10_init 24 = .ok (.putfield 16, 3) := by decide +kernel
theorem dX10_init_27 : decode cX10_init 27 = .ok (.aload_n 0, 1) := by decide +kernel
theorem dX10_init_28 : decode cX10_init 28 = .ok (.bipush 20, 2) := by decide +kernel
theorem dX10_init_30 : decode cX10_init 30 = .ok (.newarray .int, 2) := by decide +kernel
theorem dX10_init_32 : decode cX10_init 32 = .ok (.putfield 20, 3) := by decide +kernel
theorem dX10_init_35 : decode cX10_init 35 = .ok (.aload_n 0, 1) := by decide +kernel
theorem dX10_init_36 : decode cX10_init 36 = .ok (.sipush 200, 3) := by decide +kernel
theorem dX10_init_39 : decode cX10_init 39 = .ok (.newarray .int, 2) := by decide +kernel
theorem dX10_init_41 : decode cX10_init 41 = .ok (.putfield 23, 3) := by decide +kernel
theorem dX10_init_44 : decode cX10_init 44 = .ok (.aload_n 0, 1) := by decide +kernel
theorem dX10_init_45 : decode cX10_init 45 = .ok (.iconst 4, 1) := by decide +kernel
theorem dX10_init_46 : decode cX10_init 46 = .ok (.newarray .int, 2) := by decide +kernel
theorem dX10_init_48 : decode cX10_init 48 = .ok (.putfield 26, 3) := by decide +kernel
theorem dX10_init_51 : decode cX10_init 51 = .ok (.aload_n 0, 1) := by decide +kernel
theorem dX10_init_52 : decode cX10_init 52 = .ok (.sipush 200, 3) := by decide +kernel
theorem dX10_init_55 : decode cX10_init 55 = .ok (.newarray .int, 2) := by decide +kernel
theorem dX10_init_57 : decode cX10_init 57 = .ok (.putfield 29, 3) := by decide +kernel
theorem dX10_init_60 : decode cX10_init 60 = .ok (.aload_n 0, 1) := by decide +kernel
theorem dX10_init_61 : decode cX10_init 61 = .ok (.sipush 200, 3) := by decide +kernel
theorem dX10_init_64 : decode cX10_init 64 = .ok (.newarray .int, 2) := by decide +kernel
theorem dX10_init_66 : decode cX10_init 66 = .ok (.putfield 32, 3) := by decide +kernel
theorem dX10_init_69 : decode cX10_init 69 = .ok (.aload_n 0, 1) := by decide +kernel
theorem dX10_init_70 : decode cX10_init 70 = .ok (.bipush 24, 2) := by decide +kernel
theorem dX10_init_72 : decode cX10_init 72 = .ok (.newarray .int, 2) := by decide +kernel
theorem dX10_init_74 : decode cX10_init 74 = .ok (.putfield 35, 3) := by decide +kernel
theorem dX10_init_77 : decode cX10_init 77 = .ok (.aload_n 0, 1) := by decide +kernel
theorem dX10_init_78 : decode cX10_init 78 = .ok (.iconst 5, 1) := by decide +kernel
theorem dX10_init_79 : decode cX10_init 79 = .ok (.newarray .int, 2) := by decide +kernel
theorem dX10_init_81 : decode cX10_init 81 = .ok (.putfield 38, 3) := by decide +kernel
theorem dX10_init_84 : decode cX10_init 84 = .ok (.aload_n 0, 1) := by decide +kernel
theorem dX10_init_85 : decode cX10_init 85 = .ok (.iconst 5, 1) := by decide +kernel
theorem dX10_init_86 : decode cX10_init 86 = .ok (.newarray .int, 2) := by decide +kernel
theorem dX10_init_88 : decode cX10_init 88 = .ok (.putfield 41, 3) := by decide +kernel
theorem dX10_init_91 : decode cX10_init 91 = .ok (.aload_n 0, 1) := by decide +kernel
theorem dX10_init_92 : decode cX10_init 92 = .ok (.iconst 5, 1) := by decide +kernel
theorem dX10_init_93 : decode cX10_init 93 = .ok (.newarray .int, 2) := by decide +kernel
theorem dX10_init_95 : decode cX10_init 95 = .ok (.putfield 44, 3) := by decide +kernel
theorem dX10_init_98 : decode cX10_init 98 = .ok (.return_, 1) := by decide +kernel
theorem dX10_poke_0 : decode cX10_poke 0 = .ok (.iload 4, 2) := by decide +kernel
theorem dX10_poke_2 : decode cX10_poke 2 = .ok (.iconst 1, 1) := by decide +kernel
theorem dX10_poke_3 : decode cX10_poke 3 = .ok (.if_icmp .lt 24, 3) := by decide +kernel
theorem dX10_poke_6 : decode cX10_poke 6 = .ok (.iload 4, 2) := by decide +kernel
theorem dX10_poke_8 : decode cX10_poke 8 = .ok (.bipush 8, 2) := by decide +kernel
theorem dX10_poke_10 : decode cX10_poke 10 = .ok (.if_icmp .gt 17, 3) := by decide +kernel
theorem dX10_poke_13 : decode cX10_poke 13 = .ok (.iload_n 1, 1) := by decide +kernel
theorem dX10_poke_14 : decode cX10_poke 14 = .ok (.ifCond .lt 13, 3) := by decide +kernel
theorem dX10_poke_17 : decode cX10_poke 17 = .ok (.iload_n 1, 1) := by decide +kernel
theorem dX10_poke_18 : decode cX10_poke 18 = .ok (.sipush 2048, 3) := by decide +kernel
theorem dX10_poke_21 : decode cX10_poke 21 = .ok (.iload 4, 2) := by decide +kernel
theorem dX10_poke_23 : decode cX10_poke 23 = .ok (.isub, 1) := by decide +kernel
theorem dX10_poke_24 : decode cX10_poke 24 = .ok (.if_icmp .le 5, 3) := by decide +kernel
theorem dX10_poke_27 : decode cX10_poke 27 = .ok (.iconst 0, 1) := by decide +kernel
theorem dX10_poke_28 : decode cX10_poke 28 = .ok (.ireturn, 1) := by decide +kernel
theorem dX10_poke_29 : decode cX10_poke 29 = .ok (.iconst 0, 1) := by decide +kernel
theorem dX10_poke_30 : decode cX10_poke 30 = .ok (.istore 5, 2) := by decide +kernel
theorem dX10_poke_32 : decode cX10_poke 32 = .ok (.iload 5, 2) := by decide +kernel
theorem dX10_poke_34 : decode cX10_poke 34 = .ok (.iload 4, 2) := by decide +kernel
theorem dX10_poke_36 : decode cX10_poke 36 = .ok (.if_icmp .ge 30, 3) := by decide +kernel
theorem dX10_poke_39 : decode cX10_poke 39 = .ok (.aload_n 0, 1) := by decide +kernel
theorem dX10_poke_40 : decode cX10_poke 40 = .ok (.getfield 7, 3) := by decide +kernel
theorem dX10_poke_43 : decode cX10_poke 43 = .ok (.iload_n 1, 1) := by decide +kernel
theorem dX10_poke_44 : decode cX10_poke 44 = .ok (.iload 5, 2) := by decide +kernel
theorem dX10_poke_46 : decode cX10_poke 46 = .ok (.iadd, 1) := by decide +kernel
theorem dX10_poke_47 : decode cX10_poke 47 = .ok (.lload_n 2, 1) := by decide +kernel
theorem dX10_poke_48 : decode cX10_poke 48 = .ok (.bipush 8, 2) := by decide +kernel
theorem dX10_poke_50 : decode cX10_poke 50 = .ok (.iload 5, 2) := by decide +kernel
theorem dX10_poke_52 : decode cX10_poke 52 = .ok (.imul, 1) := by decide +kernel
theorem dX10_poke_53 : decode cX10_poke 53 = .ok (.lushr, 1) := by decide +kernel
theorem dX10_poke_54 : decode cX10_poke 54 = .ok (.l2i, 1) := by decide +kernel
theorem dX10_poke_55 : decode cX10_poke 55 = .ok (.sipush 255, 3) := by decide +kernel
theorem dX10_poke_58 : decode cX10_poke 58 = .ok (.iand, 1) := by decide +kernel
theorem dX10_poke_59 : decode cX10_poke 59 = .ok (.iastore, 1) := by decide +kernel
theorem dX10_poke_60 : decode cX10_poke 60 = .ok (.iinc 5 1, 3) := by decide +kernel
theorem dX10_poke_63 : decode cX10_poke 63 = .ok (.goto (-31), 3) := by decide +kernel
theorem dX10_poke_66 : decode cX10_poke 66 = .ok (.iconst 1, 1) := by decide +kernel
theorem dX10_poke_67 : decode cX10_poke 67 = .ok (.ireturn, 1) := by decide +kernel
theorem dX10_peek_0 : decode cX10_peek 0 = .ok (.iload_n 1, 1) := by decide +kernel
theorem dX10_peek_1 : decode cX10_peek 1 = .ok (.ifCond .lt 10, 3) := by decide +kernel
theorem dX10_peek_4 : decode cX10_peek 4 = .ok (.iload_n 1, 1) := by decide +kernel
theorem dX10_peek_5 : decode cX10_peek 5 = .ok (.sipush 2047, 3) := by decide +kernel
theorem dX10_peek_8 : decode cX10_peek 8 = .ok (.if_icmp .le 7, 3) := by decide +kernel
theorem dX10_peek_11 : decode cX10_peek 11 = .ok (.iconst (-1), 1) := by decide +kernel
theorem dX10_peek_12 : decode cX10_peek 12 = .ok (.goto 9, 3) := by decide +kernel
theorem dX10_peek_15 : decode cX10_peek 15 = .ok (.aload_n 0, 1) := by decide +kernel
theorem dX10_peek_16 : decode cX10_peek 16 = .ok (.getfield 7, 3) := by decide +kernel
theorem dX10_peek_19 : decode cX10_peek 19 = .ok (.iload_n 1, 1) := by decide +kernel
theorem dX10_peek_20 : decode cX10_peek 20 = .ok (.iaload, 1) := by decide +kernel
theorem dX10_peek_21 : decode cX10_peek 21 = .ok (.ireturn, 1) := by decide +kernel
theorem dX10_word_0 : decode cX10_word 0 = .ok (.aload_n 0, 1) := by decide +kernel
theorem dX10_word_1 : decode cX10_word 1 = .ok (.getfield 7, 3) := by decide +kernel
theorem dX10_word_4 : decode cX10_word 4 = .ok (.iload_n 1, 1) := by decide +kernel
theorem dX10_word_5 : decode cX10_word 5 = .ok (.iaload, 1) := by decide +kernel
theorem dX10_word_6 : decode cX10_word 6 = .ok (.sipush 256, 3) := by decide +kernel
theorem dX10_word_9 : decode cX10_word 9 = .ok (.aload_n 0, 1) := by decide +kernel
theorem dX10_word_10 : decode cX10_word 10 = .ok (.getfield 7, 3) := by decide +kernel
theorem dX10_word_13 : decode cX10_word 13 = .ok (.iload_n 1, 1) := by decide +kernel
theorem dX10_word_14 : decode cX10_word 14 = .ok (.iconst 1, 1) := by decide +kernel
theorem dX10_word_15 : decode cX10_word 15 = .ok (.iadd, 1) := by decide +kernel
theorem dX10_word_16 : decode cX10_word 16 = .ok (.iaload, 1) := by decide +kernel
theorem dX10_word_17 : decode cX10_word 17 = .ok (.imul, 1) := by decide +kernel
theorem dX10_word_18 : decode cX10_word 18 = .ok (.iadd, 1) := by decide +kernel
theorem dX10_word_19 : decode cX10_word 19 = .ok (.ireturn, 1) := by decide +kernel
set_option maxRecDepth 20000 in
theorem ggX10_four_X10_word : GoodIn wsX10_four wsX10_word := goodIn_r _ [6, 7, 8, 9, 10, 11, 12, 13, 14, 15, 16, 17, 18, 19, 20, 21, 22, 23, 24, 25, 26, 27, 28, 29, 30, 31, 32, 33] (by decide +kernel) (by decide +kernel)
set_option maxRecDepth 20000 in
theorem gX10_four_X10_word : GoodIn wsX10_four (wsV RX10 47 RX10 yX10_word wsX10_word) := goodIn_app (goodIn_of _ (by decide +kernel)) ggX10_four_X10_word
theorem dX10_four_0 : decode cX10_four 0 = .ok (.aload_n 0, 1) := by decide +kernel
theorem dX10_four_1 : decode cX10_four 1 = .ok (.iload_n 1, 1) := by decide +kernel
theorem dX10_four_2 : decode cX10_four 2 = .ok (.invokevirtual 47, 3) := by decide +kernel
theorem dX10_four_5 : decode cX10_four 5 = .ok (.ldc 51, 2) := by decide +kernel
theorem dX10_four_7 : decode cX10_four 7 = .ok (.aload_n 0, 1) := by decide +kernel
theorem dX10_four_8 : decode cX10_four 8 = .ok (.iload_n 1, 1) := by decide +kernel
theorem dX10_four_9 : decode cX10_four 9 = .ok (.iconst 2, 1) := by decide +kernel
theorem dX10_four_10 : decode cX10_four 10 = .ok (.iadd, 1) := by decide +kernel
theorem dX10_four_11 : decode cX10_four 11 = .ok (.invokevirtual 47, 3) := by decide +kernel
theorem dX10_four_14 : decode cX10_four 14 = .ok (.imul, 1) := by decide +kernel
theorem dX10_four_15 : decode cX10_four 15 = .ok (.iadd, 1) := by decide +kernel
theorem dX10_four_16 : decode cX10_four 16 = .ok (.ireturn, 1) := by decide +kernel
theorem dX10_isUsable_0 : decode cX10_isUsable 0 = .ok (.bipush 6, 2) := by decide +kernel
theorem dX10_isUsable_2 : decode cX10_isUsable 2 = .ok (.bipush 8, 2) := by decide +kernel
theorem dX10_isUsable_4 : decode cX10_isUsable 4 = .ok (.iload_n 1, 1) := by decide +kernel
theorem dX10_isUsable_5 : decode cX10_isUsable 5 = .ok (.imul, 1) := by decide +kernel
theorem dX10_isUsable_6 : decode cX10_isUsable 6 = .ok (.iadd, 1) := by decide +kernel
theorem dX10_isUsable_7 : decode cX10_isUsable 7 = .ok (.istore_n 2, 1) := by decide +kernel
theorem dX10_isUsable_8 : decode cX10_isUsable 8 = .ok (.aload_n 0, 1) := by decide +kernel
theorem dX10_isUsable_9 : decode cX10_isUsable 9 = .ok (.getfield 7, 3) := by decide +kernel
theorem dX10_isUsable_12 : decode cX10_isUsable 12 = .ok (.iload_n 2, 1) := by decide +kernel
theorem dX10_isUsable_13 : decode cX10_isUsable 13 = .ok (.iconst 1, 1) := by decide +kernel
theorem dX10_isUsable_14 : decode cX10_isUsable 14 = .ok (.iadd, 1) := by decide +kernel
theorem dX10_isUsable_15 : decode cX10_isUsable 15 = .ok (.iaload, 1) := by decide +kernel
theorem dX10_isUsable_16 : decode cX10_isUsable 16 = .ok (.bipush 12, 2) := by decide +kernel
theorem dX10_isUsable_18 : decode cX10_isUsable 18 = .ok (.if_icmp .ne 53, 3) := by decide +kernel
theorem dX10_isUsable_21 : decode cX10_isUsable 21 = .ok (.aload_n 0, 1) := by decide +kernel
theorem dX10_isUsable_22 : decode cX10_isUsable 22 = .ok (.getfield 7, 3) := by decide +kernel
theorem dX10_isUsable_25 : decode cX10_isUsable 25 = .ok (.iload_n 2, 1) := by decide +kernel
theorem dX10_isUsable_26 : decode cX10_isUsable 26 = .ok (.iconst 2, 1) := by decide +kernel
theorem dX10_isUsable_27 : decode cX10_isUsable 27 = .ok (.iadd, 1) := by decide +kernel
theorem dX10_isUsable_28 : decode cX10_isUsable 28 = .ok (.iaload, 1) := by decide +kernel
theorem dX10_isUsable_29 : decode cX10_isUsable 29 = .ok (.iconst 1, 1) := by decide +kernel
theorem dX10_isUsable_30 : decode cX10_isUsable 30 = .ok (.if_icmp .lt 41, 3) := by decide +kernel
theorem dX10_isUsable_33 : decode cX10_isUsable 33 = .ok (.aload_n 0, 1) := by decide +kernel
theorem dX10_isUsable_34 : decode cX10_isUsable 34 = .ok (.getfield 7, 3) := by decide +kernel
theorem dX10_isUsable_37 : decode cX10_isUsable 37 = .ok (.iload_n 2, 1) := by decide +kernel
theorem dX10_isUsable_38 : decode cX10_isUsable 38 = .ok (.iconst 3, 1) := by decide +kernel
theorem dX10_isUsable_39 : decode cX10_isUsable 39 = .ok (.iadd, 1) := by decide +kernel
theorem dX10_isUsable_40 : decode cX10_isUsable 40 = .ok (.iaload, 1) := by decide +kernel
theorem dX10_isUsable_41 : decode cX10_isUsable 41 = .ok (.iconst 1, 1) := by decide +kernel
theorem dX10_isUsable_42 : decode cX10_isUsable 42 = .ok (.if_icmp .lt 29, 3) := by decide +kernel
theorem dX10_isUsable_45 : decode cX10_isUsable 45 = .ok (.aload_n 0, 1) := by decide +kernel
theorem dX10_isUsable_46 : decode cX10_isUsable 46 = .ok (.getfield 7, 3) := by decide +kernel
theorem dX10_isUsable_49 : decode cX10_isUsable 49 = .ok (.iload_n 2, 1) := by decide +kernel
theorem dX10_isUsable_50 : decode cX10_isUsable 50 = .ok (.iconst 2, 1) := by decide +kernel
theorem dX10_isUsable_51 : decode cX10_isUsable 51 = .ok (.iadd, 1) := by decide +kernel
theorem dX10_isUsable_52 : decode cX10_isUsable 52 = .ok (.iaload, 1) := by decide +kernel
theorem dX10_isUsable_53 : decode cX10_isUsable 53 = .ok (.aload_n 0, 1) := by decide +kernel
theorem dX10_isUsable_54 : decode cX10_isUsable 54 = .ok (.getfield 7, 3) := by decide +kernel
theorem dX10_isUsable_57 : decode cX10_isUsable 57 = .ok (.iload_n 2, 1) := by decide +kernel
theorem dX10_isUsable_58 : decode cX10_isUsable 58 = .ok (.iconst 3, 1) := by decide +kernel
theorem dX10_isUsable_59 : decode cX10_isUsable 59 = .ok (.iadd, 1) := by decide +kernel
theorem dX10_isUsable_60 : decode cX10_isUsable 60 = .ok (.iaload, 1) := by decide +kernel
theorem dX10_isUsable_61 : decode cX10_isUsable 61 = .ok (.iadd, 1) := by decide +kernel
theorem dX10_isUsable_62 : decode cX10_isUsable 62 = .ok (.bipush 64, 2) := by decide +kernel
theorem dX10_isUsable_64 : decode cX10_isUsable 64 = .ok (.if_icmp .gt 7, 3) := by decide +kernel
theorem dX10_isUsable_67 : decode cX10_isUsable 67 = .ok (.iconst 1, 1) := by decide +kernel
theorem dX10_isUsable_68 : decode cX10_isUsable 68 = .ok (.goto 4, 3) := by decide +kernel
theorem dX10_isUsable_71 : decode cX10_isUsable 71 = .ok (.iconst 0, 1) := by decide +kernel
theorem dX10_isUsable_72 : decode cX10_isUsable 72 = .ok (.ireturn, 1) := by decide +kernel
set_option maxRecDepth 20000 in
theorem ggX10_choose_X10_isUsable : GoodIn wsX10_choose wsX10_isUsable := goodIn_r _ [6, 1, 7, 8, 9, 10, 11, 12, 13, 14, 15, 16, 17, 18, 19, 20, 21, 22, 23, 24, 25, 26, 27, 28, 29, 30, 31, 32] (by decide +kernel) (by decide +kernel)
set_option maxRecDepth 20000 in
theorem gX10_choose_X10_isUsable : GoodIn wsX10_choose (wsV RX10 52 RX10 yX10_isUsable wsX10_isUsable) := goodIn_app (goodIn_of _ (by decide +kernel)) ggX10_choose_X10_isUsable
theorem dX10_choose_0 : decode cX10_choose 0 = .ok (.iconst 0, 1) := by decide +kernel
theorem dX10_choose_1 : decode cX10_choose 1 = .ok (.istore_n 1, 1) := by decide +kernel
theorem dX10_choose_2 : decode cX10_choose 2 = .ok (.iload_n 1, 1) := by decide +kernel
theorem dX10_choose_3 : decode cX10_choose 3 = .ok (.iconst 3, 1) := by decide +kernel
theorem dX10_choose_4 : decode cX10_choose 4 = .ok (.if_icmp .ge 37, 3) := by decide +kernel
theorem dX10_choose_7 : decode cX10_choose 7 = .ok (.aload_n 0, 1) := by decide +kernel
theorem dX10_choose_8 : decode cX10_choose 8 = .ok (.iload_n 1, 1) := by decide +kernel
theorem dX10_choose_9 : decode cX10_choose 9 = .ok (.invokevirtual 52, 3) := by decide +kernel
theorem dX10_choose_12 : decode cX10_choose 12 = .ok (.ifCond .eq 23, 3) := by decide +kernel
theorem dX10_choose_15 : decode cX10_choose 15 = .ok (.aload_n 0, 1) := by decide +kernel
theorem dX10_choose_16 : decode cX10_choose 16 = .ok (.getfield 7, 3) := by decide +kernel
theorem dX10_choose_19 : decode cX10_choose 19 = .ok (.bipush 6, 2) := by decide +kernel
theorem dX10_choose_21 : decode cX10_choose 21 = .ok (.bipush 8, 2) := by decide +kernel
theorem dX10_choose_23 : decode cX10_choose 23 = .ok (.iload_n 1, 1) := by decide +kernel
theorem dX10_choose_24 : decode cX10_choose 24 = .ok (.imul, 1) := by decide +kernel
theorem dX10_choose_25 : decode cX10_choose 25 = .ok (.iadd, 1) := by decide +kernel
theorem dX10_choose_26 : decode cX10_choose 26 = .ok (.iaload, 1) := by decide +kernel
theorem dX10_choose_27 : decode cX10_choose 27 = .ok (.sipush 128, 3) := by decide +kernel
theorem dX10_choose_30 : decode cX10_choose 30 = .ok (.if_icmp .ne 5, 3) := by decide +kernel
theorem dX10_choose_33 : decode cX10_choose 33 = .ok (.iload_n 1, 1) := by decide +kernel
theorem dX10_choose_34 : decode cX10_choose 34 = .ok (.ireturn, 1) := by decide +kernel
theorem dX10_choose_35 : decode cX10_choose 35 = .ok (.iinc 1 1, 3) := by decide +kernel
theorem dX10_choose_38 : decode cX10_choose 38 = .ok (.goto (-36), 3) := by decide +kernel
theorem dX10_choose_41 : decode cX10_choose 41 = .ok (.iconst 0, 1) := by decide +kernel
theorem dX10_choose_42 : decode cX10_choose 42 = .ok (.istore_n 1, 1) := by decide +kernel
theorem dX10_choose_43 : decode cX10_choose 43 = .ok (.iload_n 1, 1) := by decide +kernel
theorem dX10_choose_44 : decode cX10_choose 44 = .ok (.iconst 3, 1) := by decide +kernel
theorem dX10_choose_45 : decode cX10_choose 45 = .ok (.if_icmp .ge 19, 3) := by decide +kernel
theorem dX10_choose_48 : decode cX10_choose 48 = .ok (.aload_n 0, 1) := by decide +kernel
theorem dX10_choose_49 : decode cX10_choose 49 = .ok (.iload_n 1, 1) := by decide +kernel
theorem dX10_choose_50 : decode cX10_choose 50 = .ok (.invokevirtual 52, 3) := by decide +kernel
theorem dX10_choose_53 : decode cX10_choose 53 = .ok (.ifCond .eq 5, 3) := by decide +kernel
theorem dX10_choose_56 : decode cX10_choose 56 = .ok (.iload_n 1, 1) := by decide +kernel
theorem dX10_choose_57 : decode cX10_choose 57 = .ok (.ireturn, 1) := by decide +kernel
theorem dX10_choose_58 : decode cX10_choose 58 = .ok (.iinc 1 1, 3) := by decide +kernel
theorem dX10_choose_61 : decode cX10_choose 61 = .ok (.goto (-18), 3) := by decide +kernel
theorem dX10_choose_64 : decode cX10_choose 64 = .ok (.iconst (-1), 1) := by decide +kernel
theorem dX10_choose_65 : decode cX10_choose 65 = .ok (.ireturn, 1) := by decide +kernel
set_option maxRecDepth 20000 in
theorem ggX10_volume_X10_choose : GoodIn wsX10_volume wsX10_choose := goodIn_r _ [14, 1, 15, 16, 17, 13, 18, 19, 20, 21, 22, 23, 24, 25, 26, 27, 28, 29, 30, 31, 32, 33, 34, 35, 36, 37, 38, 39, 40, 41, 42, 43, 44] (by decide +kernel) (by decide +kernel)
set_option maxRecDepth 20000 in
theorem gX10_volume_X10_choose : GoodIn wsX10_volume (wsV RX10 56 RX10 yX10_choose wsX10_choose) := goodIn_app (goodIn_of _ (by decide +kernel)) ggX10_volume_X10_choose
theorem dX10_volume_0 : decode cX10_volume 0 = .ok (.aload_n 0, 1) := by decide +kernel
theorem dX10_volume_1 : decode cX10_volume 1 = .ok (.getfield 7, 3) := by decide +kernel
theorem dX10_volume_4 : decode cX10_volume 4 = .ok (.bipush 30, 2) := by decide +kernel
theorem dX10_volume_6 : decode cX10_volume 6 = .ok (.iaload, 1) := by decide +kernel
theorem dX10_volume_7 : decode cX10_volume 7 = .ok (.bipush 85, 2) := by decide +kernel
theorem dX10_volume_9 : decode cX10_volume 9 = .ok (.if_icmp .ne 16, 3) := by decide +kernel
theorem dX10_volume_12 : decode cX10_volume 12 = .ok (.aload_n 0, 1) := by decide +kernel
theorem dX10_volume_13 : decode cX10_volume 13 = .ok (.getfield 7, 3) := by decide +kernel
theorem dX10_volume_16 : decode cX10_volume 16 = .ok (.bipush 31, 2) := by decide +kernel
theorem dX10_volume_18 : decode cX10_volume 18 = .ok (.iaload, 1) := by decide +kernel
theorem dX10_volume_19 : decode cX10_volume 19 = .ok (.sipush 170, 3) := by decide +kernel
theorem dX10_volume_22 : decode cX10_volume 22 = .ok (.if_icmp .eq 6, 3) := by decide +kernel
theorem dX10_volume_25 : decode cX10_volume 25 = .ok (.bipush (-2), 2) := by decide +kernel
theorem dX10_volume_27 : decode cX10_volume 27 = .ok (.ireturn, 1) := by decide +kernel
theorem dX10_volume_28 : decode cX10_volume 28 = .ok (.aload_n 0, 1) := by decide +kernel
theorem dX10_volume_29 : decode cX10_volume 29 = .ok (.aload_n 0, 1) := by decide +kernel
theorem dX10_volume_30 : decode cX10_volume 30 = .ok (.invokevirtual 56, 3) := by decide +kernel
theorem dX10_volume_33 : decode cX10_volume 33 = .ok (.putfield 60, 3) := by decide +kernel
theorem dX10_volume_36 : decode cX10_volume 36 = .ok (.aload_n 0, 1) := by decide +kernel
theorem dX10_volume_37 : decode cX10_volume 37 = .ok (.getfield 60, 3) := by decide +kernel
theorem dX10_volume_40 : decode cX10_volume 40 = .ok (.ifCond .ge 6, 3) := by decide +kernel
theorem dX10_volume_43 : decode cX10_volume 43 = .ok (.bipush (-3), 2) := by decide +kernel
theorem dX10_volume_45 : decode cX10_volume 45 = .ok (.ireturn, 1) := by decide +kernel
theorem dX10_volume_46 : decode cX10_volume 46 = .ok (.aload_n 0, 1) := by decide +kernel
theorem dX10_volume_47 : decode cX10_volume 47 = .ok (.getfield 7, 3) := by decide +kernel
theorem dX10_volume_50 : decode cX10_volume 50 = .ok (.bipush 8, 2) := by decide +kernel
theorem dX10_volume_52 : decode cX10_volume 52 = .ok (.bipush 8, 2) := by decide +kernel
theorem dX10_volume_54 : decode cX10_volume 54 = .ok (.aload_n 0, 1) := by decide +kernel
theorem dX10_volume_55 : decode cX10_volume 55 = .ok (.getfield 60, 3) := by decide +kernel
theorem dX10_volume_58 : decode cX10_volume 58 = .ok (.imul, 1) := by decide +kernel
theorem dX10_volume_59 : decode cX10_volume 59 = .ok (.iadd, 1) := by decide +kernel
theorem dX10_volume_60 : decode cX10_volume 60 = .ok (.iaload, 1) := by decide +kernel
theorem dX10_volume_61 : decode cX10_volume 61 = .ok (.istore_n 1, 1) := by decide +kernel
theorem dX10_volume_62 : decode cX10_volume 62 = .ok (.aload_n 0, 1) := by decide +kernel
theorem dX10_volume_63 : decode cX10_volume 63 = .ok (.getfield 7, 3) := by decide +kernel
theorem dX10_volume_66 : decode cX10_volume 66 = .ok (.bipush 9, 2) := by decide +kernel
theorem dX10_volume_68 : decode cX10_volume 68 = .ok (.bipush 8, 2) := by decide +kernel
theorem dX10_volume_70 : decode cX10_volume 70 = .ok (.aload_n 0, 1) := by decide +kernel
theorem dX10_volume_71 : decode cX10_volume 71 = .ok (.getfield 60, 3) := by decide +kernel
theorem dX10_volume_74 : decode cX10_volume 74 = .ok (.imul, 1) := by decide +kernel
theorem dX10_volume_75 : decode cX10_volume 75 = .ok (.iadd, 1) := by decide +kernel
theorem dX10_volume_76 : decode cX10_volume 76 = .ok (.iaload, 1) := by decide +kernel
theorem dX10_volume_77 : decode cX10_volume 77 = .ok (.istore_n 2, 1) := by decide +kernel
theorem dX10_volume_78 : decode cX10_volume 78 = .ok (.bipush 32, 2) := by decide +kernel
theorem dX10_volume_80 : decode cX10_volume 80 = .ok (.iload_n 1, 1) := by decide +kernel
theorem dX10_volume_81 : decode cX10_volume 81 = .ok (.imul, 1) := by decide +kernel
theorem dX10_volume_82 : decode cX10_volume 82 = .ok (.istore_n 3, 1) := by decide +kernel
theorem dX10_volume_83 : decode cX10_volume 83 = .ok (.aload_n 0, 1) := by decide +kernel
theorem dX10_volume_84 : decode cX10_volume 84 = .ok (.aload_n 0, 1) := by decide +kernel
theorem dX10_volume_85 : decode cX10_volume 85 = .ok (.getfield 7, 3) := by decide +kernel
theorem dX10_volume_88 : decode cX10_volume 88 = .ok (.iload_n 3, 1) := by decide +kernel
theorem dX10_volume_89 : decode cX10_volume 89 = .ok (.iconst 1, 1) := by decide +kernel
theorem dX10_volume_90 : decode cX10_volume 90 = .ok (.iadd, 1) := by decide +kernel
theorem dX10_volume_91 : decode cX10_volume 91 = .ok (.iaload, 1) := by decide +kernel
theorem dX10_volume_92 : decode cX10_volume 92 = .ok (.putfield 63, 3) := by decide +kernel
theorem dX10_volume_95 : decode cX10_volume 95 = .ok (.aload_n 0, 1) := by decide +kernel
theorem dX10_volume_96 : decode cX10_volume 96 = .ok (.getfield 7, 3) := by decide +kernel
theorem dX10_volume_99 : decode cX10_volume 99 = .ok (.iload_n 3, 1) := by decide +kernel
theorem dX10_volume_100 : decode cX10_volume 100 = .ok (.iconst 2, 1) := by decide +kernel
theorem dX10_volume_101 : decode cX10_volume 101 = .ok (.iadd, 1) := by decide +kernel
theorem dX10_volume_102 : decode cX10_volume 102 = .ok (.iaload, 1) := by decide +kernel
theorem dX10_volume_103 : decode cX10_volume 103 = .ok (.istore 4, 2) := by decide +kernel
theorem dX10_volume_105 : decode cX10_volume 105 = .ok (.aload_n 0, 1) := by decide +kernel
theorem dX10_volume_106 : decode cX10_volume 106 = .ok (.aload_n 0, 1) := by decide +kernel
theorem dX10_volume_107 : decode cX10_volume 107 = .ok (.getfield 7, 3) := by decide +kernel
theorem dX10_volume_110 : decode cX10_volume 110 = .ok (.iload_n 3, 1) := by decide +kernel
theorem dX10_volume_111 : decode cX10_volume 111 = .ok (.iconst 3, 1) := by decide +kernel
theorem dX10_volume_112 : decode cX10_volume 112 = .ok (.iadd, 1) := by decide +kernel
theorem dX10_volume_113 : decode cX10_volume 113 = .ok (.iaload, 1) := by decide +kernel
theorem dX10_volume_114 : decode cX10_volume 114 = .ok (.putfield 66, 3) := by decide +kernel
theorem dX10_volume_117 : decode cX10_volume 117 = .ok (.aload_n 0, 1) := by decide +kernel
theorem dX10_volume_118 : decode cX10_volume 118 = .ok (.aload_n 0, 1) := by decide +kernel
theorem dX10_volume_119 : decode cX10_volume 119 = .ok (.getfield 7, 3) := by decide +kernel
theorem dX10_volume_122 : decode cX10_volume 122 = .ok (.iload_n 3, 1) := by decide +kernel
theorem dX10_volume_123 : decode cX10_volume 123 = .ok (.iconst 4, 1) := by decide +kernel
theorem dX10_volume_124 : decode cX10_volume 124 = .ok (.iadd, 1) := by decide +kernel
theorem dX10_volume_125 : decode cX10_volume 125 = .ok (.iaload, 1) := by decide +kernel
theorem dX10_volume_126 : decode cX10_volume 126 = .ok (.putfield 69, 3) := by decide +kernel
theorem dX10_volume_129 : decode cX10_volume 129 = .ok (.aload_n 0, 1) := by decide +kernel
theorem dX10_volume_130 : decode cX10_volume 130 = .ok (.aload_n 0, 1) := by decide +kernel
theorem dX10_volume_131 : decode cX10_volume 131 = .ok (.getfield 7, 3) := by decide +kernel
theorem dX10_volume_134 : decode cX10_volume 134 = .ok (.iload_n 3, 1) := by decide +kernel
theorem dX10_volume_135 : decode cX10_volume 135 = .ok (.iconst 5, 1) := by decide +kernel
theorem dX10_volume_136 : decode cX10_volume 136 = .ok (.iadd, 1) := by decide +kernel
theorem dX10_volume_137 : decode cX10_volume 137 = .ok (.iaload, 1) := by decide +kernel
theorem dX10_volume_138 : decode cX10_volume 138 = .ok (.putfield 72, 3) := by decide +kernel
theorem dX10_volume_141 : decode cX10_volume 141 = .ok (.aload_n 0, 1) := by decide +kernel
theorem dX10_volume_142 : decode cX10_volume 142 = .ok (.getfield 7, 3) := by decide +kernel
theorem dX10_volume_145 : decode cX10_volume 145 = .ok (.iload_n 3, 1) := by decide +kernel
theorem dX10_volume_146 : decode cX10_volume 146 = .ok (.iaload, 1) := by decide +kernel
theorem dX10_volume_147 : decode cX10_volume 147 = .ok (.sipush 235, 3) := by decide +kernel
theorem dX10_volume_150 : decode cX10_volume 150 = .ok (.if_icmp .ne 60, 3) := by decide +kernel
theorem dX10_volume_153 : decode cX10_volume 153 = .ok (.aload_n 0, 1) := by decide +kernel
theorem dX10_volume_154 : decode cX10_volume 154 = .ok (.getfield 7, 3) := by decide +kernel
theorem dX10_volume_157 : decode cX10_volume 157 = .ok (.iload_n 3, 1) := by decide +kernel
theorem dX10_volume_158 : decode cX10_volume 158 = .ok (.bipush 30, 2) := by decide +kernel
theorem dX10_volume_160 : decode cX10_volume 160 = .ok (.iadd, 1) := by decide +kernel
theorem dX10_volume_161 : decode cX10_volume 161 = .ok (.iaload, 1) := by decide +kernel
theorem dX10_volume_162 : decode cX10_volume 162 = .ok (.bipush 85, 2) := by decide +kernel
theorem dX10_volume_164 : decode cX10_volume 164 = .ok (.if_icmp .ne 46, 3) := by decide +kernel
theorem dX10_volume_167 : decode cX10_volume 167 = .ok (.aload_n 0, 1) := by decide +kernel
theorem dX10_volume_168 : decode cX10_volume 168 = .ok (.getfield 7, 3) := by decide +kernel
theorem dX10_volume_171 : decode cX10_volume 171 = .ok (.iload_n 3, 1) := by decide +kernel
theorem dX10_volume_172 : decode cX10_volume 172 = .ok (.bipush 31, 2) := by decide +kernel
theorem dX10_volume_174 : decode cX10_volume 174 = .ok (.iadd, 1) := by decide +kernel
theorem dX10_volume_175 : decode cX10_volume 175 = .ok (.iaload, 1) := by decide +kernel
theorem dX10_volume_176 : decode cX10_volume 176 = .ok (.sipush 170, 3) := by decide +kernel
theorem dX10_volume_179 : decode cX10_volume 179 = .ok (.if_icmp .ne 31, 3) := by decide +kernel
theorem dX10_volume_182 : decode cX10_volume 182 = .ok (.aload_n 0, 1) := by decide +kernel
theorem dX10_volume_183 : decode cX10_volume 183 = .ok (.getfield 63, 3) := by decide +kernel
theorem dX10_volume_186 : decode cX10_volume 186 = .ok (.iconst 1, 1) := by decide +kernel
theorem dX10_volume_187 : decode cX10_volume 187 = .ok (.if_icmp .eq 19, 3) := by decide +kernel
theorem dX10_volume_190 : decode cX10_volume 190 = .ok (.aload_n 0, 1) := by decide +kernel
theorem dX10_volume_191 : decode cX10_volume 191 = .ok (.getfield 63, 3) := by decide +kernel
theorem dX10_volume_194 : decode cX10_volume 194 = .ok (.iconst 2, 1) := by decide +kernel
theorem dX10_volume_195 : decode cX10_volume 195 = .ok (.if_icmp .eq 11, 3) := by decide +kernel
theorem dX10_volume_198 : decode cX10_volume 198 = .ok (.aload_n 0, 1) := by decide +kernel
theorem dX10_volume_199 : decode cX10_volume 199 = .ok (.getfield 63, 3) := by decide +kernel
theorem dX10_volume_202 : decode cX10_volume 202 = .ok (.iconst 4, 1) := by decide +kernel
theorem dX10_volume_203 : decode cX10_volume 203 = .ok (.if_icmp .ne 7, 3) := by decide +kernel
theorem dX10_volume_206 : decode cX10_volume 206 = .ok (.iconst 1, 1) := by decide +kernel
theorem dX10_volume_207 : decode cX10_volume 207 = .ok (.goto 4, 3) := by decide +kernel
theorem dX10_volume_210 : decode cX10_volume 210 = .ok (.iconst 0, 1) := by decide +kernel
theorem dX10_volume_211 : decode cX10_volume 211 = .ok (.istore 5, 2) := by decide +kernel
theorem dX10_volume_213 : decode cX10_volume 213 = .ok (.iload 5, 2) := by decide +kernel
theorem dX10_volume_215 : decode cX10_volume 215 = .ok (.ifCond .eq 33, 3) := by decide +kernel
theorem dX10_volume_218 : decode cX10_volume 218 = .ok (.iload 4, 2) := by decide +kernel
theorem dX10_volume_220 : decode cX10_volume 220 = .ok (.iconst 1, 1) := by decide +kernel
theorem dX10_volume_221 : decode cX10_volume 221 = .ok (.if_icmp .lt 27, 3) := by decide +kernel
theorem dX10_volume_224 : decode cX10_volume 224 = .ok (.aload_n 0, 1) := by decide +kernel
theorem dX10_volume_225 : decode cX10_volume 225 = .ok (.getfield 66, 3) := by decide +kernel
theorem dX10_volume_228 : decode cX10_volume 228 = .ok (.iconst 1, 1) := by decide +kernel
theorem dX10_volume_229 : decode cX10_volume 229 = .ok (.if_icmp .lt 19, 3) := by decide +kernel
theorem dX10_volume_232 : decode cX10_volume 232 = .ok (.aload_n 0, 1) := by decide +kernel
theorem dX10_volume_233 : decode cX10_volume 233 = .ok (.getfield 66, 3) := by decide +kernel
theorem dX10_volume_236 : decode cX10_volume 236 = .ok (.iconst 2, 1) := by decide +kernel
theorem dX10_volume_237 : decode cX10_volume 237 = .ok (.if_icmp .gt 11, 3) := by decide +kernel
theorem dX10_volume_240 : decode cX10_volume 240 = .ok (.aload_n 0, 1) := by decide +kernel
theorem dX10_volume_241 : decode cX10_volume 241 = .ok (.getfield 69, 3) := by decide +kernel
theorem dX10_volume_244 : decode cX10_volume 244 = .ok (.iconst 1, 1) := by decide +kernel
theorem dX10_volume_245 : decode cX10_volume 245 = .ok (.if_icmp .ge 6, 3) := by decide +kernel
theorem dX10_volume_248 : decode cX10_volume 248 = .ok (.bipush (-4), 2) := by decide +kernel
theorem dX10_volume_250 : decode cX10_volume 250 = .ok (.ireturn, 1) := by decide +kernel
theorem dX10_volume_251 : decode cX10_volume 251 = .ok (.iload_n 2, 1) := by decide +kernel
theorem dX10_volume_252 : decode cX10_volume 252 = .ok (.iload 4, 2) := by decide +kernel
theorem dX10_volume_254 : decode cX10_volume 254 = .ok (.isub, 1) := by decide +kernel
theorem dX10_volume_255 : decode cX10_volume 255 = .ok (.aload_n 0, 1) := by decide +kernel
theorem dX10_volume_256 : decode cX10_volume 256 = .ok (.getfield 66, 3) := by decide +kernel
theorem dX10_volume_259 : decode cX10_volume 259 = .ok (.aload_n 0, 1) := by decide +kernel
theorem dX10_volume_260 : decode cX10_volume 260 = .ok (.getfield 69, 3) := by decide +kernel
theorem dX10_volume_263 : decode cX10_volume 263 = .ok (.imul, 1) := by decide +kernel
theorem dX10_volume_264 : decode cX10_volume 264 = .ok (.isub, 1) := by decide +kernel
theorem dX10_volume_265 : decode cX10_volume 265 = .ok (.istore 6, 2) := by decide +kernel
theorem dX10_volume_267 : decode cX10_volume 267 = .ok (.aload_n 0, 1) := by decide +kernel
theorem dX10_volume_268 : decode cX10_volume 268 = .ok (.iload 6, 2) := by decide +kernel
theorem dX10_volume_270 : decode cX10_volume 270 = .ok (.ifCond .ge 7, 3) := by decide +kernel
theorem dX10_volume_273 : decode cX10_volume 273 = .ok (.iconst 0, 1) := by decide +kernel
theorem dX10_volume_274 : decode cX10_volume 274 = .ok (.goto 10, 3) := by decide +kernel
theorem dX10_volume_277 : decode cX10_volume 277 = .ok (.iload 6, 2) := by decide +kernel
theorem dX10_volume_279 : decode cX10_volume 279 = .ok (.aload_n 0, 1) := by decide +kernel
theorem dX10_volume_280 : decode cX10_volume 280 = .ok (.getfield 63, 3) := by decide +kernel
theorem dX10_volume_283 : decode cX10_volume 283 = .ok (.idiv, 1) := by decide +kernel
theorem dX10_volume_284 : decode cX10_volume 284 = .ok (.putfield 75, 3) := by decide +kernel
theorem dX10_volume_287 : decode cX10_volume 287 = .ok (.aload_n 0, 1) := by decide +kernel
theorem dX10_volume_288 : decode cX10_volume 288 = .ok (.bipush 32, 2) := by decide +kernel
theorem dX10_volume_290 : decode cX10_volume 290 = .ok (.iload_n 1, 1) := by decide +kernel
theorem dX10_volume_291 : decode cX10_volume 291 = .ok (.iload 4, 2) := by decide +kernel
theorem dX10_volume_293 : decode cX10_volume 293 = .ok (.iadd, 1) := by decide +kernel
theorem dX10_volume_294 : decode cX10_volume 294 = .ok (.imul, 1) := by decide +kernel
theorem dX10_volume_295 : decode cX10_volume 295 = .ok (.putfield 78, 3) := by decide +kernel
theorem dX10_volume_298 : decode cX10_volume 298 = .ok (.aload_n 0, 1) := by decide +kernel
theorem dX10_volume_299 : decode cX10_volume 299 = .ok (.aload_n 0, 1) := by decide +kernel
theorem dX10_volume_300 : decode cX10_volume 300 = .ok (.getfield 78, 3) := by decide +kernel
theorem dX10_volume_303 : decode cX10_volume 303 = .ok (.bipush 32, 2) := by decide +kernel
theorem dX10_volume_305 : decode cX10_volume 305 = .ok (.aload_n 0, 1) := by decide +kernel
theorem dX10_volume_306 : decode cX10_volume 306 = .ok (.getfield 66, 3) := by decide +kernel
theorem dX10_volume_309 : decode cX10_volume 309 = .ok (.imul, 1) := by decide +kernel
theorem dX10_volume_310 : decode cX10_volume 310 = .ok (.aload_n 0, 1) := by decide +kernel
theorem dX10_volume_311 : decode cX10_volume 311 = .ok (.getfield 69, 3) := by decide +kernel
theorem dX10_volume_314 : decode cX10_volume 314 = .ok (.imul, 1) := by decide +kernel
theorem dX10_volume_315 : decode cX10_volume 315 = .ok (.iadd, 1) := by decide +kernel
theorem dX10_volume_316 : decode cX10_volume 316 = .ok (.putfield 81, 3) := by decide +kernel
theorem dX10_volume_319 : decode cX10_volume 319 = .ok (.aload_n 0, 1) := by decide +kernel
theorem dX10_volume_320 : decode cX10_volume 320 = .ok (.getfield 75, 3) := by decide +kernel
theorem dX10_volume_323 : decode cX10_volume 323 = .ok (.iconst 1, 1) := by decide +kernel
theorem dX10_volume_324 : decode cX10_volume 324 = .ok (.if_icmp .lt 40, 3) := by decide +kernel
theorem dX10_volume_327 : decode cX10_volume 327 = .ok (.bipush 16, 2) := by decide +kernel
theorem dX10_volume_329 : decode cX10_volume 329 = .ok (.aload_n 0, 1) := by decide +kernel
theorem dX10_volume_330 : decode cX10_volume 330 = .ok (.getfield 69, 3) := by decide +kernel
theorem dX10_volume_333 : decode cX10_volume 333 = .ok (.imul, 1) := by decide +kernel
theorem dX10_volume_334 : decode cX10_volume 334 = .ok (.aload_n 0, 1) := by decide +kernel
theorem dX10_volume_335 : decode cX10_volume 335 = .ok (.getfield 75, 3) := by decide +kernel
theorem dX10_volume_338 : decode cX10_volume 338 = .ok (.iconst 2, 1) := by decide +kernel
theorem dX10_volume_339 : decode cX10_volume 339 = .ok (.iadd, 1) := by decide +kernel
theorem dX10_volume_340 : decode cX10_volume 340 = .ok (.if_icmp .lt 24, 3) := by decide +kernel
theorem dX10_volume_343 : decode cX10_volume 343 = .ok (.aload_n 0, 1) := by decide +kernel
theorem dX10_volume_344 : decode cX10_volume 344 = .ok (.getfield 72, 3) := by decide +kernel
theorem dX10_volume_347 : decode cX10_volume 347 = .ok (.iconst 2, 1) := by decide +kernel
theorem dX10_volume_348 : decode cX10_volume 348 = .ok (.if_icmp .lt 16, 3) := by decide +kernel
theorem dX10_volume_351 : decode cX10_volume 351 = .ok (.aload_n 0, 1) := by decide +kernel
theorem dX10_volume_352 : decode cX10_volume 352 = .ok (.getfield 72, 3) := by decide +kernel
theorem dX10_volume_355 : decode cX10_volume 355 = .ok (.aload_n 0, 1) := by decide +kernel
theorem dX10_volume_356 : decode cX10_volume 356 = .ok (.getfield 75, 3) := by decide +kernel
theorem dX10_volume_359 : decode cX10_volume 359 = .ok (.iconst 1, 1) := by decide +kernel
theorem dX10_volume_360 : decode cX10_volume 360 = .ok (.iadd, 1) := by decide +kernel
theorem dX10_volume_361 : decode cX10_volume 361 = .ok (.if_icmp .le 6, 3) := by decide +kernel
theorem dX10_volume_364 : decode cX10_volume 364 = .ok (.bipush (-4), 2) := by decide +kernel
theorem dX10_volume_366 : decode cX10_volume 366 = .ok (.ireturn, 1) := by decide +kernel
theorem dX10_volume_367 : decode cX10_volume 367 = .ok (.aload_n 0, 1) := by decide +kernel
theorem dX10_volume_368 : decode cX10_volume 368 = .ok (.getfield 75, 3) := by decide +kernel
theorem dX10_volume_371 : decode cX10_volume 371 = .ok (.ireturn, 1) := by decide +kernel
theorem dX10_isCluster_0 : decode cX10_isCluster 0 = .ok (.iload_n 1, 1) := by decide +kernel
theorem dX10_isCluster_1 : decode cX10_isCluster 1 = .ok (.iconst 2, 1) := by decide +kernel
theorem dX10_isCluster_2 : decode cX10_isCluster 2 = .ok (.if_icmp .lt 17, 3) := by decide +kernel
theorem dX10_isCluster_5 : decode cX10_isCluster 5 = .ok (.iload_n 1, 1) := by decide +kernel
theorem dX10_isCluster_6 : decode cX10_isCluster 6 = .ok (.aload_n 0, 1) := by decide +kernel
theorem dX10_isCluster_7 : decode cX10_isCluster 7 = .ok (.getfield 75, 3) := by decide +kernel
theorem dX10_isCluster_10 : decode cX10_isCluster 10 = .ok (.iconst 1, 1) := by decide +kernel
theorem dX10_isCluster_11 : decode cX10_isCluster 11 = .ok (.iadd, 1) := by decide +kernel
theorem dX10_isCluster_12 : decode cX10_isCluster 12 = .ok (.if_icmp .gt 7, 3) := by decide +kernel
theorem dX10_isCluster_15 : decode cX10_isCluster 15 = .ok (.iconst 1, 1) := by decide +kernel
theorem dX10_isCluster_16 : decode cX10_isCluster 16 = .ok (.goto 4, 3) := by decide +kernel
theorem dX10_isCluster_19 : decode cX10_isCluster 19 = .ok (.iconst 0, 1) := by decide +kernel
theorem dX10_isCluster_20 : decode cX10_isCluster 20 = .ok (.ireturn, 1) := by decide +kernel
set_option maxRecDepth 20000 in
theorem ggX10_behind_X10_word : GoodIn wsX10_behind wsX10_word := goodIn_r _ [8, 9, 15, 16, 17, 18, 19, 20, 21, 22, 23, 24, 25, 26, 27, 28, 29, 30, 31, 32, 33, 34, 35, 36, 37, 38, 39, 40] (by decide +kernel) (by decide +kernel)
set_option maxRecDepth 20000 in
theorem gX10_behind_X10_word : GoodIn wsX10_behind (wsV RX10 47 RX10 yX10_word wsX10_word) := goodIn_app (goodIn_of _ (by decide +kernel)) ggX10_behind_X10_word
set_option maxRecDepth 20000 in
theorem ggX10_behind_X10_isCluster : GoodIn wsX10_behind wsX10_isCluster := goodIn_r _ [13, 14, 15, 16, 17, 18, 19, 20, 21, 22, 23, 24, 25, 26, 27, 28, 29, 30, 31, 32, 33, 34, 35, 36, 37, 38, 39, 40] (by decide +kernel) (by decide +kernel)
set_option maxRecDepth 20000 in
theorem gX10_behind_X10_isCluster : GoodIn wsX10_behind (wsV RX10 84 RX10 yX10_isCluster wsX10_isCluster) := goodIn_app (goodIn_of _ (by decide +kernel)) ggX10_behind_X10_isCluster
theorem dX10_behind_0 : decode cX10_behind 0 = .ok (.aload_n 0, 1) := by decide +kernel
theorem dX10_behind_1 : decode cX10_behind 1 = .ok (.aload_n 0, 1) := by decide +kernel
theorem dX10_behind_2 : decode cX10_behind 2 = .ok (.getfield 78, 3) := by decide +kernel
theorem dX10_behind_5 : decode cX10_behind 5 = .ok (.iconst 2, 1) := by decide +kernel
theorem dX10_behind_6 : decode cX10_behind 6 = .ok (.iload_n 1, 1) := by decide +kernel
theorem dX10_behind_7 : decode cX10_behind 7 = .ok (.imul, 1) := by decide +kernel
theorem dX10_behind_8 : decode cX10_behind 8 = .ok (.iadd, 1) := by decide +kernel
theorem dX10_behind_9 : decode cX10_behind 9 = .ok (.invokevirtual 47, 3) := by decide +kernel
theorem dX10_behind_12 : decode cX10_behind 12 = .ok (.sipush 4095, 3) := by decide +kernel
theorem dX10_behind_15 : decode cX10_behind 15 = .ok (.iand, 1) := by decide +kernel
theorem dX10_behind_16 : decode cX10_behind 16 = .ok (.istore_n 2, 1) := by decide +kernel
theorem dX10_behind_17 : decode cX10_behind 17 = .ok (.aload_n 0, 1) := by decide +kernel
theorem dX10_behind_18 : decode cX10_behind 18 = .ok (.iload_n 2, 1) := by decide +kernel
theorem dX10_behind_19 : decode cX10_behind 19 = .ok (.invokevirtual 84, 3) := by decide +kernel
theorem dX10_behind_22 : decode cX10_behind 22 = .ok (.ifCond .ne 18, 3) := by decide +kernel
theorem dX10_behind_25 : decode cX10_behind 25 = .ok (.iload_n 2, 1) := by decide +kernel
theorem dX10_behind_26 : decode cX10_behind 26 = .ok (.sipush 4088, 3) := by decide +kernel
theorem dX10_behind_29 : decode cX10_behind 29 = .ok (.if_icmp .ge 11, 3) := by decide +kernel
theorem dX10_behind_32 : decode cX10_behind 32 = .ok (.aload_n 0, 1) := by decide +kernel
theorem dX10_behind_33 : decode cX10_behind 33 = .ok (.getfield 66, 3) := by decide +kernel
theorem dX10_behind_36 : decode cX10_behind 36 = .ok (.iconst 1, 1) := by decide +kernel
theorem dX10_behind_37 : decode cX10_behind 37 = .ok (.if_icmp .ne 5, 3) := by decide +kernel
theorem dX10_behind_40 : decode cX10_behind 40 = .ok (.iload_n 2, 1) := by decide +kernel
theorem dX10_behind_41 : decode cX10_behind 41 = .ok (.ireturn, 1) := by decide +kernel
theorem dX10_behind_42 : decode cX10_behind 42 = .ok (.aload_n 0, 1) := by decide +kernel
theorem dX10_behind_43 : decode cX10_behind 43 = .ok (.aload_n 0, 1) := by decide +kernel
theorem dX10_behind_44 : decode cX10_behind 44 = .ok (.getfield 78, 3) := by decide +kernel
theorem dX10_behind_47 : decode cX10_behind 47 = .ok (.bipush 32, 2) := by decide +kernel
theorem dX10_behind_49 : decode cX10_behind 49 = .ok (.aload_n 0, 1) := by decide +kernel
theorem dX10_behind_50 : decode cX10_behind 50 = .ok (.getfield 69, 3) := by decide +kernel
theorem dX10_behind_53 : decode cX10_behind 53 = .ok (.imul, 1) := by decide +kernel
theorem dX10_behind_54 : decode cX10_behind 54 = .ok (.iadd, 1) := by decide +kernel
theorem dX10_behind_55 : decode cX10_behind 55 = .ok (.iconst 2, 1) := by decide +kernel
theorem dX10_behind_56 : decode cX10_behind 56 = .ok (.iload_n 1, 1) := by decide +kernel
theorem dX10_behind_57 : decode cX10_behind 57 = .ok (.imul, 1) := by decide +kernel
theorem dX10_behind_58 : decode cX10_behind 58 = .ok (.iadd, 1) := by decide +kernel
theorem dX10_behind_59 : decode cX10_behind 59 = .ok (.invokevirtual 47, 3) := by decide +kernel
theorem dX10_behind_62 : decode cX10_behind 62 = .ok (.sipush 4095, 3) := by decide +kernel
theorem dX10_behind_65 : decode cX10_behind 65 = .ok (.iand, 1) := by decide +kernel
theorem dX10_behind_66 : decode cX10_behind 66 = .ok (.ireturn, 1) := by decide +kernel
set_option maxRecDepth 20000 in
theorem ggX10_chain_X10_isCluster : GoodIn wsX10_chain wsX10_isCluster := goodIn_r _ [6, 1, 19, 20, 21, 22, 23, 24, 25, 26, 27, 28, 29, 30, 31, 32, 33, 34, 35, 36, 37, 38, 39, 40, 41, 42, 43, 44] (by decide +kernel) (by decide +kernel)
set_option maxRecDepth 20000 in
theorem gX10_chain_X10_isCluster : GoodIn wsX10_chain (wsV RX10 84 RX10 yX10_isCluster wsX10_isCluster) := goodIn_app (goodIn_of _ (by decide +kernel)) ggX10_chain_X10_isCluster
set_option maxRecDepth 20000 in
theorem ggX10_chain_X10_behind : GoodIn wsX10_chain wsX10_behind := goodIn_r _ [10, 11, 12, 13, 14, 15, 16, 5, 17, 18, 2, 3, 4, 6, 1, 19, 20, 21, 22, 23, 24, 25, 26, 27, 28, 29, 30, 31, 32, 33, 34, 35, 36, 37, 38, 39, 40, 41, 42, 43, 44] (by decide +kernel) (by decide +kernel)
set_option maxRecDepth 20000 in
theorem gX10_chain_X10_behind : GoodIn wsX10_chain (wsV RX10 87 RX10 yX10_behind wsX10_behind) := goodIn_app (goodIn_of _ (by decide +kernel)) ggX10_chain_X10_behind
theorem dX10_chain_0 : decode cX10_chain 0 = .ok (.iload_n 1, 1) := by decide +kernel
theorem dX10_chain_1 : decode cX10_chain 1 = .ok (.istore_n 2, 1) := by decide +kernel
theorem dX10_chain_2 : decode cX10_chain 2 = .ok (.iconst 0, 1) := by decide +kernel
theorem dX10_chain_3 : decode cX10_chain 3 = .ok (.istore_n 3, 1) := by decide +kernel
theorem dX10_chain_4 : decode cX10_chain 4 = .ok (.iload_n 3, 1) := by decide +kernel
theorem dX10_chain_5 : decode cX10_chain 5 = .ok (.aload_n 0, 1) := by decide +kernel
theorem dX10_chain_6 : decode cX10_chain 6 = .ok (.getfield 75, 3) := by decide +kernel
theorem dX10_chain_9 : decode cX10_chain 9 = .ok (.if_icmp .gt 40, 3) := by decide +kernel
theorem dX10_chain_12 : decode cX10_chain 12 = .ok (.aload_n 0, 1) := by decide +kernel
theorem dX10_chain_13 : decode cX10_chain 13 = .ok (.iload_n 2, 1) := by decide +kernel
theorem dX10_chain_14 : decode cX10_chain 14 = .ok (.invokevirtual 84, 3) := by decide +kernel
theorem dX10_chain_17 : decode cX10_chain 17 = .ok (.ifCond .ne 20, 3) := by decide +kernel
theorem dX10_chain_20 : decode cX10_chain 20 = .ok (.iload_n 3, 1) := by decide +kernel
theorem dX10_chain_21 : decode cX10_chain 21 = .ok (.ifCond .le 14, 3) := by decide +kernel
theorem dX10_chain_24 : decode cX10_chain 24 = .ok (.iload_n 2, 1) := by decide +kernel
theorem dX10_chain_25 : decode cX10_chain 25 = .ok (.sipush 4088, 3) := by decide +kernel
theorem dX10_chain_28 : decode cX10_chain 28 = .ok (.if_icmp .lt 7, 3) := by decide +kernel
theorem dX10_chain_31 : decode cX10_chain 31 = .ok (.iload_n 3, 1) := by decide +kernel
theorem dX10_chain_32 : decode cX10_chain 32 = .ok (.goto 4, 3) := by decide +kernel
theorem dX10_chain_35 : decode cX10_chain 35 = .ok (.iconst (-1), 1) := by decide +kernel
theorem dX10_chain_36 : decode cX10_chain 36 = .ok (.ireturn, 1) := by decide +kernel
theorem dX10_chain_37 : decode cX10_chain 37 = .ok (.aload_n 0, 1) := by decide +kernel
theorem dX10_chain_38 : decode cX10_chain 38 = .ok (.iload_n 2, 1) := by decide +kernel
theorem dX10_chain_39 : decode cX10_chain 39 = .ok (.invokevirtual 87, 3) := by decide +kernel
theorem dX10_chain_42 : decode cX10_chain 42 = .ok (.istore_n 2, 1) := by decide +kernel
theorem dX10_chain_43 : decode cX10_chain 43 = .ok (.iinc 3 1, 3) := by decide +kernel
theorem dX10_chain_46 : decode cX10_chain 46 = .ok (.goto (-42), 3) := by decide +kernel
theorem dX10_chain_49 : decode cX10_chain 49 = .ok (.iconst (-1), 1) := by decide +kernel
theorem dX10_chain_50 : decode cX10_chain 50 = .ok (.ireturn, 1) := by decide +kernel
set_option maxRecDepth 20000 in
theorem ggX10_place_X10_behind : GoodIn wsX10_place wsX10_behind := goodIn_r _ [7, 8, 9, 10, 11, 12, 13, 6, 14, 15, 16, 17, 18, 19, 20, 21, 22, 23, 24, 25, 26, 27, 28, 29, 30, 31, 32, 33, 34, 35, 36, 37, 38, 39, 40, 41, 42, 43, 44, 45, 46] (by decide +kernel) (by decide +kernel)
set_option maxRecDepth 20000 in
theorem gX10_place_X10_behind : GoodIn wsX10_place (wsV RX10 87 RX10 yX10_behind wsX10_behind) := goodIn_app (goodIn_of _ (by decide +kernel)) ggX10_place_X10_behind
theorem dX10_place_0 : decode cX10_place 0 = .ok (.bipush 32, 2) := by decide +kernel
theorem dX10_place_2 : decode cX10_place 2 = .ok (.aload_n 0, 1) := by decide +kernel
theorem dX10_place_3 : decode cX10_place 3 = .ok (.getfield 63, 3) := by decide +kernel
theorem dX10_place_6 : decode cX10_place 6 = .ok (.imul, 1) := by decide +kernel
theorem dX10_place_7 : decode cX10_place 7 = .ok (.istore_n 3, 1) := by decide +kernel
theorem dX10_place_8 : decode cX10_place 8 = .ok (.iload_n 1, 1) := by decide +kernel
theorem dX10_place_9 : decode cX10_place 9 = .ok (.istore 4, 2) := by decide +kernel
theorem dX10_place_11 : decode cX10_place 11 = .ok (.iload_n 2, 1) := by decide +kernel
theorem dX10_place_12 : decode cX10_place 12 = .ok (.iload_n 3, 1) := by decide +kernel
theorem dX10_place_13 : decode cX10_place 13 = .ok (.idiv, 1) := by decide +kernel
theorem dX10_place_14 : decode cX10_place 14 = .ok (.istore 5, 2) := by decide +kernel
theorem dX10_place_16 : decode cX10_place 16 = .ok (.iload 5, 2) := by decide +kernel
theorem dX10_place_18 : decode cX10_place 18 = .ok (.ifCond .le 17, 3) := by decide +kernel
theorem dX10_place_21 : decode cX10_place 21 = .ok (.aload_n 0, 1) := by decide +kernel
theorem dX10_place_22 : decode cX10_place 22 = .ok (.iload 4, 2) := by decide +kernel
theorem dX10_place_24 : decode cX10_place 24 = .ok (.invokevirtual 87, 3) := by decide +kernel
theorem dX10_place_27 : decode cX10_place 27 = .ok (.istore 4, 2) := by decide +kernel
theorem dX10_place_29 : decode cX10_place 29 = .ok (.iinc 5 (-1), 3) := by decide +kernel
theorem dX10_place_32 : decode cX10_place 32 = .ok (.goto (-16), 3) := by decide +kernel
theorem dX10_place_35 : decode cX10_place 35 = .ok (.aload_n 0, 1) := by decide +kernel
theorem dX10_place_36 : decode cX10_place 36 = .ok (.getfield 81, 3) := by decide +kernel
theorem dX10_place_39 : decode cX10_place 39 = .ok (.iload 4, 2) := by decide +kernel
theorem dX10_place_41 : decode cX10_place 41 = .ok (.iconst 2, 1) := by decide +kernel
theorem dX10_place_42 : decode cX10_place 42 = .ok (.isub, 1) := by decide +kernel
theorem dX10_place_43 : decode cX10_place 43 = .ok (.iload_n 3, 1) := by decide +kernel
theorem dX10_place_44 : decode cX10_place 44 = .ok (.imul, 1) := by decide +kernel
theorem dX10_place_45 : decode cX10_place 45 = .ok (.iadd, 1) := by decide +kernel
theorem dX10_place_46 : decode cX10_place 46 = .ok (.iload_n 2, 1) := by decide +kernel
theorem dX10_place_47 : decode cX10_place 47 = .ok (.iload_n 3, 1) := by decide +kernel
theorem dX10_place_48 : decode cX10_place 48 = .ok (.irem, 1) := by decide +kernel
theorem dX10_place_49 : decode cX10_place 49 = .ok (.iadd, 1) := by decide +kernel
theorem dX10_place_50 : decode cX10_place 50 = .ok (.ireturn, 1) := by decide +kernel
theorem dX10_isPassed_0 : decode cX10_isPassed 0 = .ok (.aload_n 0, 1) := by decide +kernel
theorem dX10_isPassed_1 : decode cX10_isPassed 1 = .ok (.getfield 7, 3) := by decide +kernel
theorem dX10_isPassed_4 : decode cX10_isPassed 4 = .ok (.iload_n 1, 1) := by decide +kernel
theorem dX10_isPassed_5 : decode cX10_isPassed 5 = .ok (.iaload, 1) := by decide +kernel
theorem dX10_isPassed_6 : decode cX10_isPassed 6 = .ok (.sipush 229, 3) := by decide +kernel
theorem dX10_isPassed_9 : decode cX10_isPassed 9 = .ok (.if_icmp .eq 17, 3) := by decide +kernel
theorem dX10_isPassed_12 : decode cX10_isPassed 12 = .ok (.aload_n 0, 1) := by decide +kernel
theorem dX10_isPassed_13 : decode cX10_isPassed 13 = .ok (.getfield 7, 3) := by decide +kernel
theorem dX10_isPassed_16 : decode cX10_isPassed 16 = .ok (.iload_n 1, 1) := by decide +kernel
theorem dX10_isPassed_17 : decode cX10_isPassed 17 = .ok (.iconst 4, 1) := by decide +kernel
theorem dX10_isPassed_18 : decode cX10_isPassed 18 = .ok (.iadd, 1) := by decide +kernel
theorem dX10_isPassed_19 : decode cX10_isPassed 19 = .ok (.iaload, 1) := by decide +kernel
theorem dX10_isPassed_20 : decode cX10_isPassed 20 = .ok (.bipush 8, 2) := by decide +kernel
theorem dX10_isPassed_22 : decode cX10_isPassed 22 = .ok (.iand, 1) := by decide +kernel
theorem dX10_isPassed_23 : decode cX10_isPassed 23 = .ok (.ifCond .eq 7, 3) := by decide +kernel
theorem dX10_isPassed_26 : decode cX10_isPassed 26 = .ok (.iconst 1, 1) := by decide +kernel
theorem dX10_isPassed_27 : decode cX10_isPassed 27 = .ok (.goto 4, 3) := by decide +kernel
theorem dX10_isPassed_30 : decode cX10_isPassed 30 = .ok (.iconst 0, 1) := by decide +kernel
theorem dX10_isPassed_31 : decode cX10_isPassed 31 = .ok (.ireturn, 1) := by decide +kernel
theorem dX10_isDirectory_0 : decode cX10_isDirectory 0 = .ok (.aload_n 0, 1) := by decide +kernel
theorem dX10_isDirectory_1 : decode cX10_isDirectory 1 = .ok (.getfield 7, 3) := by decide +kernel
theorem dX10_isDirectory_4 : decode cX10_isDirectory 4 = .ok (.iload_n 1, 1) := by decide +kernel
theorem dX10_isDirectory_5 : decode cX10_isDirectory 5 = .ok (.iconst 4, 1) := by decide +kernel
theorem dX10_isDirectory_6 : decode cX10_isDirectory 6 = .ok (.iadd, 1) := by decide +kernel
theorem dX10_isDirectory_7 : decode cX10_isDirectory 7 = .ok (.iaload, 1) := by decide +kernel
theorem dX10_isDirectory_8 : decode cX10_isDirectory 8 = .ok (.bipush 16, 2) := by decide +kernel
theorem dX10_isDirectory_10 : decode cX10_isDirectory 10 = .ok (.iand, 1) := by decide +kernel
theorem dX10_isDirectory_11 : decode cX10_isDirectory 11 = .ok (.ifCond .eq 7, 3) := by decide +kernel
theorem dX10_isDirectory_14 : decode cX10_isDirectory 14 = .ok (.iconst 1, 1) := by decide +kernel
theorem dX10_isDirectory_15 : decode cX10_isDirectory 15 = .ok (.goto 4, 3) := by decide +kernel
theorem dX10_isDirectory_18 : decode cX10_isDirectory 18 = .ok (.iconst 0, 1) := by decide +kernel
theorem dX10_isDirectory_19 : decode cX10_isDirectory 19 = .ok (.ireturn, 1) := by decide +kernel
set_option maxRecDepth 20000 in
theorem ggX10_sizeAt_X10_word : GoodIn wsX10_sizeAt wsX10_word := goodIn_r _ [5, 6, 7, 8, 9, 10, 11, 12, 13, 14, 15, 16, 17, 18, 19, 20, 21, 22, 23, 24, 25, 26, 27, 28, 29, 30, 31, 32] (by decide +kernel) (by decide +kernel)
set_option maxRecDepth 20000 in
theorem gX10_sizeAt_X10_word : GoodIn wsX10_sizeAt (wsV RX10 47 RX10 yX10_word wsX10_word) := goodIn_app (goodIn_of _ (by decide +kernel)) ggX10_sizeAt_X10_word
theorem dX10_sizeAt_0 : decode cX10_sizeAt 0 = .ok (.aload_n 0, 1) := by decide +kernel
theorem dX10_sizeAt_1 : decode cX10_sizeAt 1 = .ok (.iload_n 1, 1) := by decide +kernel
theorem dX10_sizeAt_2 : decode cX10_sizeAt 2 = .ok (.bipush 6, 2) := by decide +kernel
theorem dX10_sizeAt_4 : decode cX10_sizeAt 4 = .ok (.iadd, 1) := by decide +kernel
theorem dX10_sizeAt_5 : decode cX10_sizeAt 5 = .ok (.invokevirtual 47, 3) := by decide +kernel
theorem dX10_sizeAt_8 : decode cX10_sizeAt 8 = .ok (.ireturn, 1) := by decide +kernel
set_option maxRecDepth 20000 in
theorem ggX10_nth_X10_place : GoodIn wsX10_nth wsX10_place := goodIn_r _ [7, 1, 8, 9, 10, 11, 6, 12, 13, 14, 15, 16, 17, 18, 19, 2, 20, 21, 22, 23, 24, 25, 26, 27, 28, 29, 30, 31, 32, 33, 34, 35, 36, 37, 38, 39, 40, 41, 42, 43, 44, 45, 46, 47, 48, 49, 50] (by decide +kernel) (by decide +kernel)
set_option maxRecDepth 20000 in
theorem gX10_nth_X10_place : GoodIn wsX10_nth (wsV RX10 90 RX10 yX10_place wsX10_place) := goodIn_app (goodIn_of _ (by decide +kernel)) ggX10_nth_X10_place
theorem dX10_nth_0 : decode cX10_nth 0 = .ok (.iload_n 3, 1) := by decide +kernel
theorem dX10_nth_1 : decode cX10_nth 1 = .ok (.iconst 4, 1) := by decide +kernel
theorem dX10_nth_2 : decode cX10_nth 2 = .ok (.aload_n 0, 1) := by decide +kernel
theorem dX10_nth_3 : decode cX10_nth 3 = .ok (.getfield 63, 3) := by decide +kernel
theorem dX10_nth_6 : decode cX10_nth 6 = .ok (.imul, 1) := by decide +kernel
theorem dX10_nth_7 : decode cX10_nth 7 = .ok (.iload_n 2, 1) := by decide +kernel
theorem dX10_nth_8 : decode cX10_nth 8 = .ok (.imul, 1) := by decide +kernel
theorem dX10_nth_9 : decode cX10_nth 9 = .ok (.if_icmp .lt 5, 3) := by decide +kernel
theorem dX10_nth_12 : decode cX10_nth 12 = .ok (.iconst (-1), 1) := by decide +kernel
theorem dX10_nth_13 : decode cX10_nth 13 = .ok (.ireturn, 1) := by decide +kernel
theorem dX10_nth_14 : decode cX10_nth 14 = .ok (.aload_n 0, 1) := by decide +kernel
theorem dX10_nth_15 : decode cX10_nth 15 = .ok (.iload_n 1, 1) := by decide +kernel
theorem dX10_nth_16 : decode cX10_nth 16 = .ok (.bipush 8, 2) := by decide +kernel
theorem dX10_nth_18 : decode cX10_nth 18 = .ok (.iload_n 3, 1) := by decide +kernel
theorem dX10_nth_19 : decode cX10_nth 19 = .ok (.imul, 1) := by decide +kernel
theorem dX10_nth_20 : decode cX10_nth 20 = .ok (.invokevirtual 90, 3) := by decide +kernel
theorem dX10_nth_23 : decode cX10_nth 23 = .ok (.istore 4, 2) := by decide +kernel
theorem dX10_nth_25 : decode cX10_nth 25 = .ok (.aload_n 0, 1) := by decide +kernel
theorem dX10_nth_26 : decode cX10_nth 26 = .ok (.getfield 7, 3) := by decide +kernel
theorem dX10_nth_29 : decode cX10_nth 29 = .ok (.iload 4, 2) := by decide +kernel
theorem dX10_nth_31 : decode cX10_nth 31 = .ok (.iaload, 1) := by decide +kernel
theorem dX10_nth_32 : decode cX10_nth 32 = .ok (.ifCond .ne 7, 3) := by decide +kernel
theorem dX10_nth_35 : decode cX10_nth 35 = .ok (.iconst (-1), 1) := by decide +kernel
theorem dX10_nth_36 : decode cX10_nth 36 = .ok (.goto 5, 3) := by decide +kernel
theorem dX10_nth_39 : decode cX10_nth 39 = .ok (.iload 4, 2) := by decide +kernel
theorem dX10_nth_41 : decode cX10_nth 41 = .ok (.ireturn, 1) := by decide +kernel
set_option maxRecDepth 20000 in
theorem ggX10_lookUp_X10_chain : GoodIn wsX10_lookUp wsX10_chain := goodIn_r _ [5, 6, 7, 8, 9, 4, 10, 11, 12, 13, 14, 15, 16, 17, 18, 19, 20, 21, 22, 42, 43, 44, 45, 46, 47, 48, 49, 50, 51, 52, 53, 54, 55, 56, 57, 58, 59, 60, 61, 62, 63, 64, 65, 66, 67] (by decide +kernel) (by decide +kernel)
set_option maxRecDepth 20000 in
theorem gX10_lookUp_X10_chain : GoodIn wsX10_lookUp (wsV RX10 94 RX10 yX10_chain wsX10_chain) := goodIn_app (goodIn_of _ (by decide +kernel)) ggX10_lookUp_X10_chain
set_option maxRecDepth 20000 in
theorem ggX10_lookUp_X10_nth : GoodIn wsX10_lookUp wsX10_nth := goodIn_r _ [26, 27, 22, 28, 29, 30, 4, 31, 32, 11, 12, 13, 14, 15, 16, 17, 18, 19, 20, 21, 7, 8, 9, 10, 6, 42, 43, 44, 45, 46, 47, 48, 49, 50, 51, 52, 53, 54, 55, 56, 57, 58, 59, 60, 61, 62, 63, 64, 65, 66, 67] (by decide +kernel) (by decide +kernel)
set_option maxRecDepth 20000 in
theorem gX10_lookUp_X10_nth : GoodIn wsX10_lookUp (wsV RX10 97 RX10 yX10_nth wsX10_nth) := goodIn_app (goodIn_of _ (by decide +kernel)) ggX10_lookUp_X10_nth
set_option maxRecDepth 20000 in
theorem ggX10_lookUp_X10_isPassed : GoodIn wsX10_lookUp wsX10_isPassed := goodIn_r _ [36, 22, 42, 43, 44, 45, 46, 47, 48, 49, 50, 51, 52, 53, 54, 55, 56, 57, 58, 59, 60, 61, 62, 63, 64, 65, 66, 67] (by decide +kernel) (by decide +kernel)
set_option maxRecDepth 20000 in
theorem gX10_lookUp_X10_isPassed : GoodIn wsX10_lookUp (wsV RX10 101 RX10 yX10_isPassed wsX10_isPassed) := goodIn_app (goodIn_of _ (by decide +kernel)) ggX10_lookUp_X10_isPassed
set_option maxRecDepth 20000 in
theorem ggX10_lookUp_X10_four : GoodIn wsX10_lookUp wsX10_four := goodIn_r _ [40, 41, 18, 19, 20, 4, 21, 22, 42, 43, 44, 45, 46, 47, 48, 49, 50, 51, 52, 53, 54, 55, 56, 57, 58, 59, 60, 61, 62, 63, 64, 65, 66, 67] (by decide +kernel) (by decide +kernel)
set_option maxRecDepth 20000 in
theorem gX10_lookUp_X10_four : GoodIn wsX10_lookUp (wsV RX10 104 RX10 yX10_four wsX10_four) := goodIn_app (goodIn_of _ (by decide +kernel)) ggX10_lookUp_X10_four
theorem dX10_lookUp_0 : decode cX10_lookUp 0 = .ok (.aload_n 0, 1) := by decide +kernel
theorem dX10_lookUp_1 : decode cX10_lookUp 1 = .ok (.iload_n 1, 1) := by decide +kernel
theorem dX10_lookUp_2 : decode cX10_lookUp 2 = .ok (.invokevirtual 94, 3) := by decide +kernel
theorem dX10_lookUp_5 : decode cX10_lookUp 5 = .ok (.istore_n 3, 1) := by decide +kernel
theorem dX10_lookUp_6 : decode cX10_lookUp 6 = .ok (.iload_n 3, 1) := by decide +kernel
theorem dX10_lookUp_7 : decode cX10_lookUp 7 = .ok (.ifCond .ge 6, 3) := by decide +kernel
theorem dX10_lookUp_10 : decode cX10_lookUp 10 = .ok (.bipush (-9), 2) := by decide +kernel
theorem dX10_lookUp_12 : decode cX10_lookUp 12 = .ok (.ireturn, 1) := by decide +kernel
theorem dX10_lookUp_13 : decode cX10_lookUp 13 = .ok (.aload_n 0, 1) := by decide +kernel
theorem dX10_lookUp_14 : decode cX10_lookUp 14 = .ok (.iload_n 1, 1) := by decide +kernel
theorem dX10_lookUp_15 : decode cX10_lookUp 15 = .ok (.iload_n 3, 1) := by decide +kernel
theorem dX10_lookUp_16 : decode cX10_lookUp 16 = .ok (.iconst 0, 1) := by decide +kernel
theorem dX10_lookUp_17 : decode cX10_lookUp 17 = .ok (.invokevirtual 97, 3) := by decide +kernel
theorem dX10_lookUp_20 : decode cX10_lookUp 20 = .ok (.istore 4, 2) := by decide +kernel
theorem dX10_lookUp_22 : decode cX10_lookUp 22 = .ok (.iconst 1, 1) := by decide +kernel
theorem dX10_lookUp_23 : decode cX10_lookUp 23 = .ok (.istore 5, 2) := by decide +kernel
theorem dX10_lookUp_25 : decode cX10_lookUp 25 = .ok (.iload 4, 2) := by decide +kernel
theorem dX10_lookUp_27 : decode cX10_lookUp 27 = .ok (.ifCond .lt 41, 3) := by decide +kernel
theorem dX10_lookUp_30 : decode cX10_lookUp 30 = .ok (.aload_n 0, 1) := by decide +kernel
theorem dX10_lookUp_31 : decode cX10_lookUp 31 = .ok (.iload 4, 2) := by decide +kernel
theorem dX10_lookUp_33 : decode cX10_lookUp 33 = .ok (.invokevirtual 101, 3) := by decide +kernel
theorem dX10_lookUp_36 : decode cX10_lookUp 36 = .ok (.ifCond .ne 16, 3) := by decide +kernel
theorem dX10_lookUp_39 : decode cX10_lookUp 39 = .ok (.aload_n 0, 1) := by decide +kernel
theorem dX10_lookUp_40 : decode cX10_lookUp 40 = .ok (.iload 4, 2) := by decide +kernel
theorem dX10_lookUp_42 : decode cX10_lookUp 42 = .ok (.invokevirtual 104, 3) := by decide +kernel
theorem dX10_lookUp_45 : decode cX10_lookUp 45 = .ok (.iload_n 2, 1) := by decide +kernel
theorem dX10_lookUp_46 : decode cX10_lookUp 46 = .ok (.if_icmp .ne 6, 3) := by decide +kernel
theorem dX10_lookUp_49 : decode cX10_lookUp 49 = .ok (.iload 4, 2) := by decide +kernel
theorem dX10_lookUp_51 : decode cX10_lookUp 51 = .ok (.ireturn, 1) := by decide +kernel
theorem dX10_lookUp_52 : decode cX10_lookUp 52 = .ok (.aload_n 0, 1) := by decide +kernel
theorem dX10_lookUp_53 : decode cX10_lookUp 53 = .ok (.iload_n 1, 1) := by decide +kernel
theorem dX10_lookUp_54 : decode cX10_lookUp 54 = .ok (.iload_n 3, 1) := by decide +kernel
theorem dX10_lookUp_55 : decode cX10_lookUp 55 = .ok (.iload 5, 2) := by decide +kernel
theorem dX10_lookUp_57 : decode cX10_lookUp 57 = .ok (.invokevirtual 97, 3) := by decide +kernel
theorem dX10_lookUp_60 : decode cX10_lookUp 60 = .ok (.istore 4, 2) := by decide +kernel
theorem dX10_lookUp_62 : decode cX10_lookUp 62 = .ok (.iinc 5 1, 3) := by decide +kernel
theorem dX10_lookUp_65 : decode cX10_lookUp 65 = .ok (.goto (-40), 3) := by decide +kernel
theorem dX10_lookUp_68 : decode cX10_lookUp 68 = .ok (.bipush (-6), 2) := by decide +kernel
theorem dX10_lookUp_70 : decode cX10_lookUp 70 = .ok (.ireturn, 1) := by decide +kernel
theorem dX10_isLetter_0 : decode cX10_isLetter 0 = .ok (.iload_n 1, 1) := by decide +kernel
theorem dX10_isLetter_1 : decode cX10_isLetter 1 = .ok (.bipush 65, 2) := by decide +kernel
theorem dX10_isLetter_3 : decode cX10_isLetter 3 = .ok (.if_icmp .lt 9, 3) := by decide +kernel
theorem dX10_isLetter_6 : decode cX10_isLetter 6 = .ok (.iload_n 1, 1) := by decide +kernel
theorem dX10_isLetter_7 : decode cX10_isLetter 7 = .ok (.bipush 90, 2) := by decide +kernel
theorem dX10_isLetter_9 : decode cX10_isLetter 9 = .ok (.if_icmp .le 15, 3) := by decide +kernel
theorem dX10_isLetter_12 : decode cX10_isLetter 12 = .ok (.iload_n 1, 1) := by decide +kernel
theorem dX10_isLetter_13 : decode cX10_isLetter 13 = .ok (.bipush 48, 2) := by decide +kernel
theorem dX10_isLetter_15 : decode cX10_isLetter 15 = .ok (.if_icmp .lt 13, 3) := by decide +kernel
theorem dX10_isLetter_18 : decode cX10_isLetter 18 = .ok (.iload_n 1, 1) := by decide +kernel
theorem dX10_isLetter_19 : decode cX10_isLetter 19 = .ok (.bipush 57, 2) := by decide +kernel
theorem dX10_isLetter_21 : decode cX10_isLetter 21 = .ok (.if_icmp .gt 7, 3) := by decide +kernel
theorem dX10_isLetter_24 : decode cX10_isLetter 24 = .ok (.iconst 1, 1) := by decide +kernel
theorem dX10_isLetter_25 : decode cX10_isLetter 25 = .ok (.goto 4, 3) := by decide +kernel
theorem dX10_isLetter_28 : decode cX10_isLetter 28 = .ok (.iconst 0, 1) := by decide +kernel
theorem dX10_isLetter_29 : decode cX10_isLetter 29 = .ok (.ireturn, 1) := by decide +kernel
set_option maxRecDepth 20000 in
theorem ggX10_parse_X10_isLetter : GoodIn wsX10_parse wsX10_isLetter := goodIn_r _ [9] (by decide +kernel) (by decide +kernel)
set_option maxRecDepth 20000 in
theorem gX10_parse_X10_isLetter : GoodIn wsX10_parse (wsV RX10 113 RX10 yX10_isLetter wsX10_isLetter) := goodIn_app (goodIn_of _ (by decide +kernel)) ggX10_parse_X10_isLetter
theorem dX10_parse_0 : decode cX10_parse 0 = .ok (.aload_n 0, 1) := by decide +kernel
theorem dX10_parse_1 : decode cX10_parse 1 = .ok (.iconst 0, 1) := by decide +kernel
theorem dX10_parse_2 : decode cX10_parse 2 = .ok (.putfield 107, 3) := by decide +kernel
theorem dX10_parse_5 : decode cX10_parse 5 = .ok (.iconst 0, 1) := by decide +kernel
theorem dX10_parse_6 : decode cX10_parse 6 = .ok (.istore_n 1, 1) := by decide +kernel
theorem dX10_parse_7 : decode cX10_parse 7 = .ok (.iconst 0, 1) := by decide +kernel
theorem dX10_parse_8 : decode cX10_parse 8 = .ok (.istore_n 2, 1) := by decide +kernel
theorem dX10_parse_9 : decode cX10_parse 9 = .ok (.iconst 0, 1) := by decide +kernel
theorem dX10_parse_10 : decode cX10_parse 10 = .ok (.istore_n 3, 1) := by decide +kernel
theorem dX10_parse_11 : decode cX10_parse 11 = .ok (.iload_n 3, 1) := by decide +kernel
theorem dX10_parse_12 : decode cX10_parse 12 = .ok (.aload_n 0, 1) := by decide +kernel
theorem dX10_parse_13 : decode cX10_parse 13 = .ok (.getfield 110, 3) := by decide +kernel
theorem dX10_parse_16 : decode cX10_parse 16 = .ok (.if_icmp .gt 145, 3) := by decide +kernel
theorem dX10_parse_19 : decode cX10_parse 19 = .ok (.iload_n 3, 1) := by decide +kernel
theorem dX10_parse_20 : decode cX10_parse 20 = .ok (.aload_n 0, 1) := by decide +kernel
theorem dX10_parse_21 : decode cX10_parse 21 = .ok (.getfield 110, 3) := by decide +kernel
theorem dX10_parse_24 : decode cX10_parse 24 = .ok (.if_icmp .eq 14, 3) := by decide +kernel
theorem dX10_parse_27 : decode cX10_parse 27 = .ok (.aload_n 0, 1) := by decide +kernel
theorem dX10_parse_28 : decode cX10_parse 28 = .ok (.getfield 23, 3) := by decide +kernel
theorem dX10_parse_31 : decode cX10_parse 31 = .ok (.iload_n 3, 1) := by decide +kernel
theorem dX10_parse_32 : decode cX10_parse 32 = .ok (.iaload, 1) := by decide +kernel
theorem dX10_parse_33 : decode cX10_parse 33 = .ok (.bipush 47, 2) := by decide +kernel
theorem dX10_parse_35 : decode cX10_parse 35 = .ok (.if_icmp .ne 7, 3) := by decide +kernel
theorem dX10_parse_38 : decode cX10_parse 38 = .ok (.iconst 1, 1) := by decide +kernel
theorem dX10_parse_39 : decode cX10_parse 39 = .ok (.goto 4, 3) := by decide +kernel
theorem dX10_parse_42 : decode cX10_parse 42 = .ok (.iconst 0, 1) := by decide +kernel
theorem dX10_parse_43 : decode cX10_parse 43 = .ok (.istore 4, 2) := by decide +kernel
theorem dX10_parse_45 : decode cX10_parse 45 = .ok (.iload 4, 2) := by decide +kernel
theorem dX10_parse_47 : decode cX10_parse 47 = .ok (.ifCond .eq 71, 3) := by decide +kernel
theorem dX10_parse_50 : decode cX10_parse 50 = .ok (.iload_n 1, 1) := by decide +kernel
theorem dX10_parse_51 : decode cX10_parse 51 = .ok (.iconst 1, 1) := by decide +kernel
theorem dX10_parse_52 : decode cX10_parse 52 = .ok (.if_icmp .lt 11, 3) := by decide +kernel
theorem dX10_parse_55 : decode cX10_parse 55 = .ok (.aload_n 0, 1) := by decide +kernel
theorem dX10_parse_56 : decode cX10_parse 56 = .ok (.getfield 107, 3) := by decide +kernel
theorem dX10_parse_59 : decode cX10_parse 59 = .ok (.iconst 4, 1) := by decide +kernel
theorem dX10_parse_60 : decode cX10_parse 60 = .ok (.if_icmp .ne 5, 3) := by decide +kernel
theorem dX10_parse_63 : decode cX10_parse 63 = .ok (.iconst 0, 1) := by decide +kernel
theorem dX10_parse_64 : decode cX10_parse 64 = .ok (.ireturn, 1) := by decide +kernel
theorem dX10_parse_65 : decode cX10_parse 65 = .ok (.iload_n 1, 1) := by decide +kernel
theorem dX10_parse_66 : decode cX10_parse 66 = .ok (.istore 5, 2) := by decide +kernel
theorem dX10_parse_68 : decode cX10_parse 68 = .ok (.iload 5, 2) := by decide +kernel
theorem dX10_parse_70 : decode cX10_parse 70 = .ok (.iconst 4, 1) := by decide +kernel
theorem dX10_parse_71 : decode cX10_parse 71 = .ok (.if_icmp .ge 20, 3) := by decide +kernel
theorem dX10_parse_74 : decode cX10_parse 74 = .ok (.iload_n 2, 1) := by decide +kernel
theorem dX10_parse_75 : decode cX10_parse 75 = .ok (.bipush 32, 2) := by decide +kernel
theorem dX10_parse_77 : decode cX10_parse 77 = .ok (.bipush 8, 2) := by decide +kernel
theorem dX10_parse_79 : decode cX10_parse 79 = .ok (.iload 5, 2) := by decide +kernel
theorem dX10_parse_81 : decode cX10_parse 81 = .ok (.imul, 1) := by decide +kernel
theorem dX10_parse_82 : decode cX10_parse 82 = .ok (.ishl, 1) := by decide +kernel
theorem dX10_parse_83 : decode cX10_parse 83 = .ok (.iadd, 1) := by decide +kernel
theorem dX10_parse_84 : decode cX10_parse 84 = .ok (.istore_n 2, 1) := by decide +kernel
theorem dX10_parse_85 : decode cX10_parse 85 = .ok (.iinc 5 1, 3) := by decide +kernel
theorem dX10_parse_88 : decode cX10_parse 88 = .ok (.goto (-20), 3) := by decide +kernel
theorem dX10_parse_91 : decode cX10_parse 91 = .ok (.aload_n 0, 1) := by decide +kernel
theorem dX10_parse_92 : decode cX10_parse 92 = .ok (.getfield 26, 3) := by decide +kernel
theorem dX10_parse_95 : decode cX10_parse 95 = .ok (.aload_n 0, 1) := by decide +kernel
theorem dX10_parse_96 : decode cX10_parse 96 = .ok (.getfield 107, 3) := by decide +kernel
theorem dX10_parse_99 : decode cX10_parse 99 = .ok (.iload_n 2, 1) := by decide +kernel
theorem dX10_parse_100 : decode cX10_parse 100 = .ok (.iastore, 1) := by decide +kernel
theorem dX10_parse_101 : decode cX10_parse 101 = .ok (.aload_n 0, 1) := by decide +kernel
theorem dX10_parse_102 : decode cX10_parse 102 = .ok (.dup, 1) := by decide +kernel
theorem dX10_parse_103 : decode cX10_parse 103 = .ok (.getfield 107, 3) := by decide +kernel
theorem dX10_parse_106 : decode cX10_parse 106 = .ok (.iconst 1, 1) := by decide +kernel
theorem dX10_parse_107 : decode cX10_parse 107 = .ok (.iadd, 1) := by decide +kernel
theorem dX10_parse_108 : decode cX10_parse 108 = .ok (.putfield 107, 3) := by decide +kernel
theorem dX10_parse_111 : decode cX10_parse 111 = .ok (.iconst 0, 1) := by decide +kernel
theorem dX10_parse_112 : decode cX10_parse 112 = .ok (.istore_n 1, 1) := by decide +kernel
theorem dX10_parse_113 : decode cX10_parse 113 = .ok (.iconst 0, 1) := by decide +kernel
theorem dX10_parse_114 : decode cX10_parse 114 = .ok (.istore_n 2, 1) := by decide +kernel
theorem dX10_parse_115 : decode cX10_parse 115 = .ok (.goto 40, 3) := by decide +kernel
theorem dX10_parse_118 : decode cX10_parse 118 = .ok (.aload_n 0, 1) := by decide +kernel
theorem dX10_parse_119 : decode cX10_parse 119 = .ok (.aload_n 0, 1) := by decide +kernel
theorem dX10_parse_120 : decode cX10_parse 120 = .ok (.getfield 23, 3) := by decide +kernel
theorem dX10_parse_123 : decode cX10_parse 123 = .ok (.iload_n 3, 1) := by decide +kernel
theorem dX10_parse_124 : decode cX10_parse 124 = .ok (.iaload, 1) := by decide +kernel
theorem dX10_parse_125 : decode cX10_parse 125 = .ok (.invokevirtual 113, 3) := by decide +kernel
theorem dX10_parse_128 : decode cX10_parse 128 = .ok (.ifCond .eq 8, 3) := by decide +kernel
theorem dX10_parse_131 : decode cX10_parse 131 = .ok (.iload_n 1, 1) := by decide +kernel
theorem dX10_parse_132 : decode cX10_parse 132 = .ok (.iconst 4, 1) := by decide +kernel
theorem dX10_parse_133 : decode cX10_parse 133 = .ok (.if_icmp .ne 5, 3) := by decide +kernel
theorem dX10_parse_136 : decode cX10_parse 136 = .ok (.iconst 0, 1) := by decide +kernel
theorem dX10_parse_137 : decode cX10_parse 137 = .ok (.ireturn, 1) := by decide +kernel
theorem dX10_parse_138 : decode cX10_parse 138 = .ok (.iload_n 2, 1) := by decide +kernel
theorem dX10_parse_139 : decode cX10_parse 139 = .ok (.aload_n 0, 1) := by decide +kernel
theorem dX10_parse_140 : decode cX10_parse 140 = .ok (.getfield 23, 3) := by decide +kernel
theorem dX10_parse_143 : decode cX10_parse 143 = .ok (.iload_n 3, 1) := by decide +kernel
theorem dX10_parse_144 : decode cX10_parse 144 = .ok (.iaload, 1) := by decide +kernel
theorem dX10_parse_145 : decode cX10_parse 145 = .ok (.bipush 8, 2) := by decide +kernel
theorem dX10_parse_147 : decode cX10_parse 147 = .ok (.iload_n 1, 1) := by decide +kernel
theorem dX10_parse_148 : decode cX10_parse 148 = .ok (.imul, 1) := by decide +kernel
theorem dX10_parse_149 : decode cX10_parse 149 = .ok (.ishl, 1) := by decide +kernel
theorem dX10_parse_150 : decode cX10_parse 150 = .ok (.iadd, 1) := by decide +kernel
theorem dX10_parse_151 : decode cX10_parse 151 = .ok (.istore_n 2, 1) := by decide +kernel
theorem dX10_parse_152 : decode cX10_parse 152 = .ok (.iinc 1 1, 3) := by decide +kernel
theorem dX10_parse_155 : decode cX10_parse 155 = .ok (.iinc 3 1, 3) := by decide +kernel
theorem dX10_parse_158 : decode cX10_parse 158 = .ok (.goto (-147), 3) := by decide +kernel
theorem dX10_parse_161 : decode cX10_parse 161 = .ok (.iconst 1, 1) := by decide +kernel
theorem dX10_parse_162 : decode cX10_parse 162 = .ok (.ireturn, 1) := by decide +kernel
set_option maxRecDepth 20000 in
theorem ggX10_find_X10_parse : GoodIn wsX10_find wsX10_parse := goodIn_r _ [9, 2, 10, 11, 3, 12, 13, 14, 8, 15, 63, 64, 65, 66, 67, 68, 69, 70, 71, 72, 73, 74, 75, 76, 77, 78, 79, 80, 81, 82, 83, 84, 85, 86, 87, 88] (by decide +kernel) (by decide +kernel)
set_option maxRecDepth 20000 in
theorem gX10_find_X10_parse : GoodIn wsX10_find (wsV RX10 116 RX10 yX10_parse wsX10_parse) := goodIn_app (goodIn_of _ (by decide +kernel)) ggX10_find_X10_parse
set_option maxRecDepth 20000 in
theorem ggX10_find_X10_lookUp : GoodIn wsX10_find wsX10_lookUp := goodIn_r _ [19, 20, 21, 22, 8, 23, 24, 25, 26, 27, 28, 29, 30, 31, 32, 33, 34, 35, 36, 37, 38, 39, 4, 40, 41, 42, 43, 44, 45, 46, 47, 48, 49, 50, 51, 52, 53, 54, 55, 56, 57, 58, 63, 64, 65, 66, 67, 68, 69, 70, 71, 72, 73, 74, 75, 76, 77, 78, 79, 80, 81, 82, 83, 84, 85, 86, 87, 88] (by decide +kernel) (by decide +kernel)
set_option maxRecDepth 20000 in
theorem gX10_find_X10_lookUp : GoodIn wsX10_find (wsV RX10 120 RX10 yX10_lookUp wsX10_lookUp) := goodIn_app (goodIn_of _ (by decide +kernel)) ggX10_find_X10_lookUp
set_option maxRecDepth 20000 in
theorem ggX10_find_X10_isDirectory : GoodIn wsX10_find wsX10_isDirectory := goodIn_r _ [62, 4, 63, 64, 65, 66, 67, 68, 69, 70, 71, 72, 73, 74, 75, 76, 77, 78, 79, 80, 81, 82, 83, 84, 85, 86, 87, 88] (by decide +kernel) (by decide +kernel)
set_option maxRecDepth 20000 in
theorem gX10_find_X10_isDirectory : GoodIn wsX10_find (wsV RX10 123 RX10 yX10_isDirectory wsX10_isDirectory) := goodIn_app (goodIn_of _ (by decide +kernel)) ggX10_find_X10_isDirectory
theorem dX10_find_0 : decode cX10_find 0 = .ok (.aload_n 0, 1) := by decide +kernel
theorem dX10_find_1 : decode cX10_find 1 = .ok (.invokevirtual 116, 3) := by decide +kernel
theorem dX10_find_4 : decode cX10_find 4 = .ok (.ifCond .ne 6, 3) := by decide +kernel
theorem dX10_find_7 : decode cX10_find 7 = .ok (.bipush (-5), 2) := by decide +kernel
theorem dX10_find_9 : decode cX10_find 9 = .ok (.ireturn, 1) := by decide +kernel
theorem dX10_find_10 : decode cX10_find 10 = .ok (.aload_n 0, 1) := by decide +kernel
theorem dX10_find_11 : decode cX10_find 11 = .ok (.getfield 72, 3) := by decide +kernel
theorem dX10_find_14 : decode cX10_find 14 = .ok (.istore_n 1, 1) := by decide +kernel
theorem dX10_find_15 : decode cX10_find 15 = .ok (.bipush (-6), 2) := by decide +kernel
theorem dX10_find_17 : decode cX10_find 17 = .ok (.istore_n 2, 1) := by decide +kernel
theorem dX10_find_18 : decode cX10_find 18 = .ok (.iconst 0, 1) := by decide +kernel
theorem dX10_find_19 : decode cX10_find 19 = .ok (.istore_n 3, 1) := by decide +kernel
theorem dX10_find_20 : decode cX10_find 20 = .ok (.iload_n 3, 1) := by decide +kernel
theorem dX10_find_21 : decode cX10_find 21 = .ok (.aload_n 0, 1) := by decide +kernel
theorem dX10_find_22 : decode cX10_find 22 = .ok (.getfield 107, 3) := by decide +kernel
theorem dX10_find_25 : decode cX10_find 25 = .ok (.if_icmp .ge 57, 3) := by decide +kernel
theorem dX10_find_28 : decode cX10_find 28 = .ok (.aload_n 0, 1) := by decide +kernel
theorem dX10_find_29 : decode cX10_find 29 = .ok (.iload_n 1, 1) := by decide +kernel
theorem dX10_find_30 : decode cX10_find 30 = .ok (.aload_n 0, 1) := by decide +kernel
theorem dX10_find_31 : decode cX10_find 31 = .ok (.getfield 26, 3) := by decide +kernel
theorem dX10_find_34 : decode cX10_find 34 = .ok (.iload_n 3, 1) := by decide +kernel
theorem dX10_find_35 : decode cX10_find 35 = .ok (.iaload, 1) := by decide +kernel
theorem dX10_find_36 : decode cX10_find 36 = .ok (.invokevirtual 120, 3) := by decide +kernel
theorem dX10_find_39 : decode cX10_find 39 = .ok (.istore_n 2, 1) := by decide +kernel
theorem dX10_find_40 : decode cX10_find 40 = .ok (.iload_n 2, 1) := by decide +kernel
theorem dX10_find_41 : decode cX10_find 41 = .ok (.ifCond .ge 5, 3) := by decide +kernel
theorem dX10_find_44 : decode cX10_find 44 = .ok (.iload_n 2, 1) := by decide +kernel
theorem dX10_find_45 : decode cX10_find 45 = .ok (.ireturn, 1) := by decide +kernel
theorem dX10_find_46 : decode cX10_find 46 = .ok (.iload_n 3, 1) := by decide +kernel
theorem dX10_find_47 : decode cX10_find 47 = .ok (.iconst 1, 1) := by decide +kernel
theorem dX10_find_48 : decode cX10_find 48 = .ok (.iadd, 1) := by decide +kernel
theorem dX10_find_49 : decode cX10_find 49 = .ok (.aload_n 0, 1) := by decide +kernel
theorem dX10_find_50 : decode cX10_find 50 = .ok (.getfield 107, 3) := by decide +kernel
theorem dX10_find_53 : decode cX10_find 53 = .ok (.if_icmp .ge 14, 3) := by decide +kernel
theorem dX10_find_56 : decode cX10_find 56 = .ok (.aload_n 0, 1) := by decide +kernel
theorem dX10_find_57 : decode cX10_find 57 = .ok (.iload_n 2, 1) := by decide +kernel
theorem dX10_find_58 : decode cX10_find 58 = .ok (.invokevirtual 123, 3) := by decide +kernel
theorem dX10_find_61 : decode cX10_find 61 = .ok (.ifCond .ne 6, 3) := by decide +kernel
theorem dX10_find_64 : decode cX10_find 64 = .ok (.bipush (-8), 2) := by decide +kernel
theorem dX10_find_66 : decode cX10_find 66 = .ok (.ireturn, 1) := by decide +kernel
theorem dX10_find_67 : decode cX10_find 67 = .ok (.aload_n 0, 1) := by decide +kernel
theorem dX10_find_68 : decode cX10_find 68 = .ok (.getfield 7, 3) := by decide +kernel
theorem dX10_find_71 : decode cX10_find 71 = .ok (.iload_n 2, 1) := by decide +kernel
theorem dX10_find_72 : decode cX10_find 72 = .ok (.iconst 5, 1) := by decide +kernel
theorem dX10_find_73 : decode cX10_find 73 = .ok (.iadd, 1) := by decide +kernel
theorem dX10_find_74 : decode cX10_find 74 = .ok (.iaload, 1) := by decide +kernel
theorem dX10_find_75 : decode cX10_find 75 = .ok (.istore_n 1, 1) := by decide +kernel
theorem dX10_find_76 : decode cX10_find 76 = .ok (.iinc 3 1, 3) := by decide +kernel
theorem dX10_find_79 : decode cX10_find 79 = .ok (.goto (-59), 3) := by decide +kernel
theorem dX10_find_82 : decode cX10_find 82 = .ok (.iload_n 2, 1) := by decide +kernel
theorem dX10_find_83 : decode cX10_find 83 = .ok (.ireturn, 1) := by decide +kernel
theorem dX10_take_0 : decode cX10_take 0 = .ok (.iconst 0, 1) := by decide +kernel
theorem dX10_take_1 : decode cX10_take 1 = .ok (.istore_n 3, 1) := by decide +kernel
theorem dX10_take_2 : decode cX10_take 2 = .ok (.iload_n 3, 1) := by decide +kernel
theorem dX10_take_3 : decode cX10_take 3 = .ok (.iload_n 2, 1) := by decide +kernel
theorem dX10_take_4 : decode cX10_take 4 = .ok (.if_icmp .ge 18, 3) := by decide +kernel
theorem dX10_take_7 : decode cX10_take 7 = .ok (.aload_n 0, 1) := by decide +kernel
theorem dX10_take_8 : decode cX10_take 8 = .ok (.getfield 23, 3) := by decide +kernel
theorem dX10_take_11 : decode cX10_take 11 = .ok (.iload_n 3, 1) := by decide +kernel
theorem dX10_take_12 : decode cX10_take 12 = .ok (.aload_n 1, 1) := by decide +kernel
theorem dX10_take_13 : decode cX10_take 13 = .ok (.iload_n 3, 1) := by decide +kernel
theorem dX10_take_14 : decode cX10_take 14 = .ok (.iaload, 1) := by decide +kernel
theorem dX10_take_15 : decode cX10_take 15 = .ok (.iastore, 1) := by decide +kernel

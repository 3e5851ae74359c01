theorem dX7_bestOf_101 : decode cX7_bestOf 101 = .ok (.dup2, 1) := by decide +kernel
theorem dX7_bestOf_102 : decode cX7_bestOf 102 = .ok (.iaload, 1) := by decide +kernel
theorem dX7_bestOf_103 : decode cX7_bestOf 103 = .ok (.iconst 1, 1) := by decide +kernel
theorem dX7_bestOf_104 : decode cX7_bestOf 104 = .ok (.iadd, 1) := by decide +kernel
theorem dX7_bestOf_105 : decode cX7_bestOf 105 = .ok (.iastore, 1) := by decide +kernel
theorem dX7_bestOf_106 : decode cX7_bestOf 106 = .ok (.aload_n 0, 1) := by decide +kernel
theorem dX7_bestOf_107 : decode cX7_bestOf 107 = .ok (.getfield 134, 3) := by decide +kernel
theorem dX7_bestOf_110 : decode cX7_bestOf 110 = .ok (.iload_n 2, 1) := by decide +kernel
theorem dX7_bestOf_111 : decode cX7_bestOf 111 = .ok (.iconst (-1), 1) := by decide +kernel
theorem dX7_bestOf_112 : decode cX7_bestOf 112 = .ok (.iastore, 1) := by decide +kernel
theorem dX7_bestOf_113 : decode cX7_bestOf 113 = .ok (.aload_n 0, 1) := by decide +kernel
theorem dX7_bestOf_114 : decode cX7_bestOf 114 = .ok (.getfield 137, 3) := by decide +kernel
theorem dX7_bestOf_117 : decode cX7_bestOf 117 = .ok (.iload_n 2, 1) := by decide +kernel
theorem dX7_bestOf_118 : decode cX7_bestOf 118 = .ok (.ldc2_w 315, 3) := by decide +kernel
theorem dX7_bestOf_121 : decode cX7_bestOf 121 = .ok (.lastore, 1) := by decide +kernel
theorem dX7_bestOf_122 : decode cX7_bestOf 122 = .ok (.aload_n 0, 1) := by decide +kernel
theorem dX7_bestOf_123 : decode cX7_bestOf 123 = .ok (.getfield 131, 3) := by decide +kernel
theorem dX7_bestOf_126 : decode cX7_bestOf 126 = .ok (.iload_n 2, 1) := by decide +kernel
theorem dX7_bestOf_127 : decode cX7_bestOf 127 = .ok (.iaload, 1) := by decide +kernel
theorem dX7_bestOf_128 : decode cX7_bestOf 128 = .ok (.iconst 2, 1) := by decide +kernel
theorem dX7_bestOf_129 : decode cX7_bestOf 129 = .ok (.if_icmp .ge 6, 3) := by decide +kernel
theorem dX7_bestOf_132 : decode cX7_bestOf 132 = .ok (.goto (-114), 3) := by decide +kernel
theorem dX7_bestOf_135 : decode cX7_bestOf 135 = .ok (.iload_n 2, 1) := by decide +kernel
theorem dX7_bestOf_136 : decode cX7_bestOf 136 = .ok (.iconst 5, 1) := by decide +kernel
theorem dX7_bestOf_137 : decode cX7_bestOf 137 = .ok (.if_icmp .ne 10, 3) := by decide +kernel
theorem dX7_bestOf_140 : decode cX7_bestOf 140 = .ok (.aload_n 0, 1) := by decide +kernel
theorem dX7_bestOf_141 : decode cX7_bestOf 141 = .ok (.invokevirtual 311, 3) := by decide +kernel
theorem dX7_bestOf_144 : decode cX7_bestOf 144 = .ok (.goto 9, 3) := by decide +kernel
theorem dX7_bestOf_147 : decode cX7_bestOf 147 = .ok (.aload_n 0, 1) := by decide +kernel
theorem dX7_bestOf_148 : decode cX7_bestOf 148 = .ok (.getfield 140, 3) := by decide +kernel
theorem dX7_bestOf_151 : decode cX7_bestOf 151 = .ok (.iload_n 2, 1) := by decide +kernel
theorem dX7_bestOf_152 : decode cX7_bestOf 152 = .ok (.laload, 1) := by decide +kernel
theorem dX7_bestOf_153 : decode cX7_bestOf 153 = .ok (.lstore_n 3, 1) := by decide +kernel
theorem dX7_bestOf_154 : decode cX7_bestOf 154 = .ok (.iload_n 2, 1) := by decide +kernel
theorem dX7_bestOf_155 : decode cX7_bestOf 155 = .ok (.ifCond .ne 5, 3) := by decide +kernel
theorem dX7_bestOf_158 : decode cX7_bestOf 158 = .ok (.lload_n 3, 1) := by decide +kernel
theorem dX7_bestOf_159 : decode cX7_bestOf 159 = .ok (.lreturn, 1) := by decide +kernel
theorem dX7_bestOf_160 : decode cX7_bestOf 160 = .ok (.iinc 2 (-1), 3) := by decide +kernel
theorem dX7_bestOf_163 : decode cX7_bestOf 163 = .ok (.aload_n 0, 1) := by decide +kernel
theorem dX7_bestOf_164 : decode cX7_bestOf 164 = .ok (.getfield 137, 3) := by decide +kernel
theorem dX7_bestOf_167 : decode cX7_bestOf 167 = .ok (.iload_n 2, 1) := by decide +kernel
theorem dX7_bestOf_168 : decode cX7_bestOf 168 = .ok (.lload_n 3, 1) := by decide +kernel
theorem dX7_bestOf_169 : decode cX7_bestOf 169 = .ok (.aload_n 0, 1) := by decide +kernel
theorem dX7_bestOf_170 : decode cX7_bestOf 170 = .ok (.getfield 137, 3) := by decide +kernel
theorem dX7_bestOf_173 : decode cX7_bestOf 173 = .ok (.iload_n 2, 1) := by decide +kernel
theorem dX7_bestOf_174 : decode cX7_bestOf 174 = .ok (.laload, 1) := by decide +kernel
theorem dX7_bestOf_175 : decode cX7_bestOf 175 = .ok (.lcmp, 1) := by decide +kernel
theorem dX7_bestOf_176 : decode cX7_bestOf 176 = .ok (.ifCond .le 7, 3) := by decide +kernel
theorem dX7_bestOf_179 : decode cX7_bestOf 179 = .ok (.lload_n 3, 1) := by decide +kernel
theorem dX7_bestOf_180 : decode cX7_bestOf 180 = .ok (.goto 9, 3) := by decide +kernel
theorem dX7_bestOf_183 : decode cX7_bestOf 183 = .ok (.aload_n 0, 1) := by decide +kernel
theorem dX7_bestOf_184 : decode cX7_bestOf 184 = .ok (.getfield 137, 3) := by decide +kernel
theorem dX7_bestOf_187 : decode cX7_bestOf 187 = .ok (.iload_n 2, 1) := by decide +kernel
theorem dX7_bestOf_188 : decode cX7_bestOf 188 = .ok (.laload, 1) := by decide +kernel
theorem dX7_bestOf_189 : decode cX7_bestOf 189 = .ok (.lastore, 1) := by decide +kernel
theorem dX7_bestOf_190 : decode cX7_bestOf 190 = .ok (.goto (-172), 3) := by decide +kernel
set_option maxRecDepth 100000 in
theorem ggX7_mean_X7_isPupil : GoodIn wsX7_mean wsX7_isPupil := goodIn_r _ [11, 12, 13, 14, 15, 10, 16, 124, 125, 126, 127, 128, 129, 130, 131, 132, 133, 134, 135, 136, 137, 138, 139, 140, 141, 142, 143, 144, 145, 146, 147, 148, 149, 150, 151, 152, 153, 154, 155, 156, 157, 158, 159, 160, 161, 162, 163, 164, 165, 166, 167, 168, 169, 170] rfl (by decide +kernel)
set_option maxRecDepth 100000 in
theorem gX7_mean_X7_isPupil : GoodIn wsX7_mean (wsV RX7 35 RX7 yX7_isPupil wsX7_isPupil) := goodIn_app (goodIn_of _ (by decide +kernel)) ggX7_mean_X7_isPupil
set_option maxRecDepth 100000 in
theorem ggX7_mean_X7_in : GoodIn wsX7_mean wsX7_in := goodIn_r _ [16] rfl (by decide +kernel)
set_option maxRecDepth 100000 in
theorem gX7_mean_X7_in : GoodIn wsX7_mean (wsV RX7 7 RX7 yX7_in wsX7_in) := goodIn_app (goodIn_of _ (by decide +kernel)) ggX7_mean_X7_in
set_option maxRecDepth 100000 in
theorem ggX7_mean_X7_layRule : GoodIn wsX7_mean wsX7_layRule := goodIn_r _ [20, 21, 22, 23, 24, 25, 26, 10, 27, 28, 29, 30, 31, 32, 33, 34, 35, 36, 37, 38, 39, 40, 41, 124, 125, 126, 127, 128, 129, 130, 131, 132, 133, 134, 135, 136, 137, 138, 139, 140, 141, 142, 143, 144, 145, 146, 147, 148, 149, 150, 151, 152, 153, 154, 155, 156, 157, 158, 159, 160, 161, 162, 163, 164, 165, 166, 167, 168, 169, 170] rfl (by decide +kernel)
set_option maxRecDepth 100000 in
theorem gX7_mean_X7_layRule : GoodIn wsX7_mean (wsV RX7 283 RX7 yX7_layRule wsX7_layRule) := goodIn_app (goodIn_of _ (by decide +kernel)) ggX7_mean_X7_layRule
set_option maxRecDepth 100000 in
theorem ggX7_mean_X7_meanOf : GoodIn wsX7_mean wsX7_meanOf := goodIn_r _ [45, 6, 46, 47, 48, 10, 49, 50, 51, 52, 53, 54, 55, 56, 57, 58, 59, 60, 61, 62, 63, 22, 23, 64, 65, 66, 67, 68, 69, 70, 71, 72, 73, 74, 75, 76, 77, 78, 79, 80, 81, 82, 83, 84, 85, 86, 87, 88, 89, 21, 124, 125, 126, 127, 128, 129, 130, 131, 132, 133, 134, 135, 136, 137, 138, 139, 140, 141, 142, 143, 144, 145, 146, 147, 148, 149, 150, 151, 152, 153, 154, 155, 156, 157, 158, 159, 160, 161, 162, 163, 164, 165, 166, 167, 168, 169, 170] rfl (by decide +kernel)
set_option maxRecDepth 100000 in
theorem gX7_mean_X7_meanOf : GoodIn wsX7_mean (wsV RX7 320 RX7 yX7_meanOf wsX7_meanOf) := goodIn_app (goodIn_of _ (by decide +kernel)) ggX7_mean_X7_meanOf
set_option maxRecDepth 100000 in
theorem ggX7_mean_X7_bestOf : GoodIn wsX7_mean wsX7_bestOf := goodIn_r _ [93, 3, 94, 95, 96, 97, 98, 51, 52, 53, 10, 54, 55, 56, 57, 58, 59, 50, 99, 100, 101, 102, 60, 61, 62, 63, 22, 23, 78, 79, 80, 81, 82, 83, 84, 85, 86, 87, 88, 89, 21, 124, 125, 126, 127, 128, 129, 130, 131, 132, 133, 134, 135, 136, 137, 138, 139, 140, 141, 142, 143, 144, 145, 146, 147, 148, 149, 150, 151, 152, 153, 154, 155, 156, 157, 158, 159, 160, 161, 162, 163, 164, 165, 166, 167, 168, 169, 170] rfl (by decide +kernel)
set_option maxRecDepth 100000 in
theorem gX7_mean_X7_bestOf : GoodIn wsX7_mean (wsV RX7 324 RX7 yX7_bestOf wsX7_bestOf) := goodIn_app (goodIn_of _ (by decide +kernel)) ggX7_mean_X7_bestOf
set_option maxRecDepth 100000 in
theorem ggX7_mean_X7_allOf : GoodIn wsX7_mean wsX7_allOf := goodIn_r _ [106, 107, 108, 109, 10, 110, 56, 111, 112, 113, 114, 115, 124, 125, 126, 127, 128, 129, 130, 131, 132, 133, 134, 135, 136, 137, 138, 139, 140, 141, 142, 143, 144, 145, 146, 147, 148, 149, 150, 151, 152, 153, 154, 155, 156, 157, 158, 159, 160, 161, 162, 163, 164, 165, 166, 167, 168, 169, 170] rfl (by decide +kernel)
set_option maxRecDepth 100000 in
theorem gX7_mean_X7_allOf : GoodIn wsX7_mean (wsV RX7 327 RX7 yX7_allOf wsX7_allOf) := goodIn_app (goodIn_of _ (by decide +kernel)) ggX7_mean_X7_allOf
set_option maxRecDepth 100000 in
theorem ggX7_mean_X7_lowest : GoodIn wsX7_mean wsX7_lowest := goodIn_r _ [119, 120, 121, 122, 10, 123] rfl (by decide +kernel)
set_option maxRecDepth 100000 in
theorem gX7_mean_X7_lowest : GoodIn wsX7_mean (wsV RX7 302 RX7 yX7_lowest wsX7_lowest) := goodIn_app (goodIn_of _ (by decide +kernel)) ggX7_mean_X7_lowest
theorem dX7_mean_0 : decode cX7_mean 0 = .ok (.aload_n 0, 1) := by decide +kernel
theorem dX7_mean_1 : decode cX7_mean 1 = .ok (.iload_n 1, 1) := by decide +kernel
theorem dX7_mean_2 : decode cX7_mean 2 = .ok (.invokevirtual 35, 3) := by decide +kernel
theorem dX7_mean_5 : decode cX7_mean 5 = .ok (.ifCond .eq 14, 3) := by decide +kernel
theorem dX7_mean_8 : decode cX7_mean 8 = .ok (.aload_n 0, 1) := by decide +kernel
theorem dX7_mean_9 : decode cX7_mean 9 = .ok (.iload_n 2, 1) := by decide +kernel
theorem dX7_mean_10 : decode cX7_mean 10 = .ok (.iconst 0, 1) := by decide +kernel
theorem dX7_mean_11 : decode cX7_mean 11 = .ok (.bipush 7, 2) := by decide +kernel
theorem dX7_mean_13 : decode cX7_mean 13 = .ok (.invokevirtual 7, 3) := by decide +kernel
theorem dX7_mean_16 : decode cX7_mean 16 = .ok (.ifCond .ne 7, 3) := by decide +kernel
theorem dX7_mean_19 : decode cX7_mean 19 = .ok (.ldc2_w 297, 3) := by decide +kernel
theorem dX7_mean_22 : decode cX7_mean 22 = .ok (.lreturn, 1) := by decide +kernel
theorem dX7_mean_23 : decode cX7_mean 23 = .ok (.aload_n 0, 1) := by decide +kernel
theorem dX7_mean_24 : decode cX7_mean 24 = .ok (.aload_n 0, 1) := by decide +kernel
theorem dX7_mean_25 : decode cX7_mean 25 = .ok (.getfield 18, 3) := by decide +kernel
theorem dX7_mean_28 : decode cX7_mean 28 = .ok (.iload_n 1, 1) := by decide +kernel
theorem dX7_mean_29 : decode cX7_mean 29 = .ok (.iaload, 1) := by decide +kernel
theorem dX7_mean_30 : decode cX7_mean 30 = .ok (.invokevirtual 283, 3) := by decide +kernel
theorem dX7_mean_33 : decode cX7_mean 33 = .ok (.aload_n 0, 1) := by decide +kernel
theorem dX7_mean_34 : decode cX7_mean 34 = .ok (.iload_n 1, 1) := by decide +kernel
theorem dX7_mean_35 : decode cX7_mean 35 = .ok (.aload_n 0, 1) := by decide +kernel
theorem dX7_mean_36 : decode cX7_mean 36 = .ok (.getfield 15, 3) := by decide +kernel
theorem dX7_mean_39 : decode cX7_mean 39 = .ok (.iload_n 1, 1) := by decide +kernel
theorem dX7_mean_40 : decode cX7_mean 40 = .ok (.iaload, 1) := by decide +kernel
theorem dX7_mean_41 : decode cX7_mean 41 = .ok (.aload_n 0, 1) := by decide +kernel
theorem dX7_mean_42 : decode cX7_mean 42 = .ok (.getfield 11, 3) := by decide +kernel
theorem dX7_mean_45 : decode cX7_mean 45 = .ok (.iload_n 1, 1) := by decide +kernel
theorem dX7_mean_46 : decode cX7_mean 46 = .ok (.iaload, 1) := by decide +kernel
theorem dX7_mean_47 : decode cX7_mean 47 = .ok (.aload_n 0, 1) := by decide +kernel
theorem dX7_mean_48 : decode cX7_mean 48 = .ok (.getfield 21, 3) := by decide +kernel
theorem dX7_mean_51 : decode cX7_mean 51 = .ok (.iload_n 1, 1) := by decide +kernel
theorem dX7_mean_52 : decode cX7_mean 52 = .ok (.iaload, 1) := by decide +kernel
theorem dX7_mean_53 : decode cX7_mean 53 = .ok (.invokevirtual 320, 3) := by decide +kernel
theorem dX7_mean_56 : decode cX7_mean 56 = .ok (.lstore_n 3, 1) := by decide +kernel
theorem dX7_mean_57 : decode cX7_mean 57 = .ok (.iload_n 2, 1) := by decide +kernel
theorem dX7_mean_58 : decode cX7_mean 58 = .ok (.iconst 3, 1) := by decide +kernel
theorem dX7_mean_59 : decode cX7_mean 59 = .ok (.if_icmp .le 11, 3) := by decide +kernel
theorem dX7_mean_62 : decode cX7_mean 62 = .ok (.aload_n 0, 1) := by decide +kernel
theorem dX7_mean_63 : decode cX7_mean 63 = .ok (.iload_n 1, 1) := by decide +kernel
theorem dX7_mean_64 : decode cX7_mean 64 = .ok (.invokevirtual 324, 3) := by decide +kernel
theorem dX7_mean_67 : decode cX7_mean 67 = .ok (.goto 4, 3) := by decide +kernel
theorem dX7_mean_70 : decode cX7_mean 70 = .ok (.lconst 0, 1) := by decide +kernel
theorem dX7_mean_71 : decode cX7_mean 71 = .ok (.lstore 5, 2) := by decide +kernel
theorem dX7_mean_73 : decode cX7_mean 73 = .ok (.iload_n 2, 1) := by decide +kernel
theorem dX7_mean_74 : decode cX7_mean 74 = .ok (.iconst 2, 1) := by decide +kernel
theorem dX7_mean_75 : decode cX7_mean 75 = .ok (.if_icmp .ge 7, 3) := by decide +kernel
theorem dX7_mean_78 : decode cX7_mean 78 = .ok (.lload_n 3, 1) := by decide +kernel
theorem dX7_mean_79 : decode cX7_mean 79 = .ok (.goto 30, 3) := by decide +kernel
theorem dX7_mean_82 : decode cX7_mean 82 = .ok (.iload_n 2, 1) := by decide +kernel
theorem dX7_mean_83 : decode cX7_mean 83 = .ok (.iconst 4, 1) := by decide +kernel
theorem dX7_mean_84 : decode cX7_mean 84 = .ok (.if_icmp .ge 10, 3) := by decide +kernel
theorem dX7_mean_87 : decode cX7_mean 87 = .ok (.aload_n 0, 1) := by decide +kernel
theorem dX7_mean_88 : decode cX7_mean 88 = .ok (.getfield 127, 3) := by decide +kernel
theorem dX7_mean_91 : decode cX7_mean 91 = .ok (.goto 18, 3) := by decide +kernel
theorem dX7_mean_94 : decode cX7_mean 94 = .ok (.iload_n 2, 1) := by decide +kernel
theorem dX7_mean_95 : decode cX7_mean 95 = .ok (.bipush 6, 2) := by decide +kernel
theorem dX7_mean_97 : decode cX7_mean 97 = .ok (.if_icmp .ge 8, 3) := by decide +kernel
theorem dX7_mean_100 : decode cX7_mean 100 = .ok (.lload 5, 2) := by decide +kernel
theorem dX7_mean_102 : decode cX7_mean 102 = .ok (.goto 7, 3) := by decide +kernel
theorem dX7_mean_105 : decode cX7_mean 105 = .ok (.lload 5, 2) := by decide +kernel
theorem dX7_mean_107 : decode cX7_mean 107 = .ok (.lload_n 3, 1) := by decide +kernel
theorem dX7_mean_108 : decode cX7_mean 108 = .ok (.lsub, 1) := by decide +kernel
theorem dX7_mean_109 : decode cX7_mean 109 = .ok (.lstore 7, 2) := by decide +kernel
theorem dX7_mean_111 : decode cX7_mean 111 = .ok (.aload_n 0, 1) := by decide +kernel
theorem dX7_mean_112 : decode cX7_mean 112 = .ok (.lload 7, 2) := by decide +kernel
theorem dX7_mean_114 : decode cX7_mean 114 = .ok (.aload_n 0, 1) := by decide +kernel
theorem dX7_mean_115 : decode cX7_mean 115 = .ok (.iload_n 1, 1) := by decide +kernel
theorem dX7_mean_116 : decode cX7_mean 116 = .ok (.invokevirtual 327, 3) := by decide +kernel
theorem dX7_mean_119 : decode cX7_mean 119 = .ok (.iload_n 2, 1) := by decide +kernel
theorem dX7_mean_120 : decode cX7_mean 120 = .ok (.iconst 2, 1) := by decide +kernel
theorem dX7_mean_121 : decode cX7_mean 121 = .ok (.irem, 1) := by decide +kernel
theorem dX7_mean_122 : decode cX7_mean 122 = .ok (.invokevirtual 302, 3) := by decide +kernel
theorem dX7_mean_125 : decode cX7_mean 125 = .ok (.lreturn, 1) := by decide +kernel
set_option maxRecDepth 100000 in
theorem ggX7_off_X7_isPupil : GoodIn wsX7_off wsX7_isPupil := goodIn_r _ [10, 11, 12, 13, 14, 9, 15, 111, 112, 113, 114, 115, 116, 117, 118, 119, 120, 121, 122, 123, 124, 125, 126, 127, 128, 129, 130, 131, 132, 133, 134, 135, 136, 137, 138, 139, 140, 141, 142, 143, 144, 145, 146, 147, 148, 149, 150, 151, 152, 153, 154, 155, 156, 157] rfl (by decide +kernel)
set_option maxRecDepth 100000 in
theorem gX7_off_X7_isPupil : GoodIn wsX7_off (wsV RX7 35 RX7 yX7_isPupil wsX7_isPupil) := goodIn_app (goodIn_of _ (by decide +kernel)) ggX7_off_X7_isPupil
set_option maxRecDepth 100000 in
theorem ggX7_off_X7_in : GoodIn wsX7_off wsX7_in := goodIn_r _ [15] rfl (by decide +kernel)
set_option maxRecDepth 100000 in
theorem gX7_off_X7_in : GoodIn wsX7_off (wsV RX7 7 RX7 yX7_in wsX7_in) := goodIn_app (goodIn_of _ (by decide +kernel)) ggX7_off_X7_in
set_option maxRecDepth 100000 in
theorem ggX7_off_X7_layRule : GoodIn wsX7_off wsX7_layRule := goodIn_r _ [19, 20, 21, 22, 23, 24, 25, 9, 26, 27, 28, 29, 30, 31, 32, 33, 34, 35, 36, 37, 38, 39, 40, 111, 112, 113, 114, 115, 116, 117, 118, 119, 120, 121, 122, 123, 124, 125, 126, 127, 128, 129, 130, 131, 132, 133, 134, 135, 136, 137, 138, 139, 140, 141, 142, 143, 144, 145, 146, 147, 148, 149, 150, 151, 152, 153, 154, 155, 156, 157] rfl (by decide +kernel)
set_option maxRecDepth 100000 in
theorem gX7_off_X7_layRule : GoodIn wsX7_off (wsV RX7 283 RX7 yX7_layRule wsX7_layRule) := goodIn_app (goodIn_of _ (by decide +kernel)) ggX7_off_X7_layRule
set_option maxRecDepth 100000 in
theorem ggX7_off_X7_meanOf : GoodIn wsX7_off wsX7_meanOf := goodIn_r _ [44, 45, 46, 47, 48, 9, 49, 50, 51, 52, 53, 54, 55, 56, 57, 58, 59, 60, 61, 62, 63, 21, 22, 64, 65, 66, 67, 68, 69, 70, 71, 72, 73, 74, 75, 76, 77, 78, 79, 80, 81, 82, 83, 84, 85, 86, 87, 88, 89, 20, 111, 112, 113, 114, 115, 116, 117, 118, 119, 120, 121, 122, 123, 124, 125, 126, 127, 128, 129, 130, 131, 132, 133, 134, 135, 136, 137, 138, 139, 140, 141, 142, 143, 144, 145, 146, 147, 148, 149, 150, 151, 152, 153, 154, 155, 156, 157] rfl (by decide +kernel)
set_option maxRecDepth 100000 in
theorem gX7_off_X7_meanOf : GoodIn wsX7_off (wsV RX7 320 RX7 yX7_meanOf wsX7_meanOf) := goodIn_app (goodIn_of _ (by decide +kernel)) ggX7_off_X7_meanOf
set_option maxRecDepth 100000 in
theorem ggX7_off_X7_held : GoodIn wsX7_off wsX7_held := goodIn_r _ [85] rfl (by decide +kernel)
set_option maxRecDepth 100000 in
theorem gX7_off_X7_held : GoodIn wsX7_off (wsV RX7 255 RX7 yX7_held wsX7_held) := goodIn_app (goodIn_of _ (by decide +kernel)) ggX7_off_X7_held
set_option maxRecDepth 100000 in
theorem ggX7_off_X7_allOf : GoodIn wsX7_off wsX7_allOf := goodIn_r _ [93, 94, 95, 96, 9, 97, 56, 98, 99, 100, 101, 102, 111, 112, 113, 114, 115, 116, 117, 118, 119, 120, 121, 122, 123, 124, 125, 126, 127, 128, 129, 130, 131, 132, 133, 134, 135, 136, 137, 138, 139, 140, 141, 142, 143, 144, 145, 146, 147, 148, 149, 150, 151, 152, 153, 154, 155, 156, 157] rfl (by decide +kernel)
set_option maxRecDepth 100000 in
theorem gX7_off_X7_allOf : GoodIn wsX7_off (wsV RX7 327 RX7 yX7_allOf wsX7_allOf) := goodIn_app (goodIn_of _ (by decide +kernel)) ggX7_off_X7_allOf
set_option maxRecDepth 100000 in
theorem ggX7_off_X7_lowest : GoodIn wsX7_off wsX7_lowest := goodIn_r _ [106, 107, 108, 109, 9, 110] rfl (by decide +kernel)
set_option maxRecDepth 100000 in
theorem gX7_off_X7_lowest : GoodIn wsX7_off (wsV RX7 302 RX7 yX7_lowest wsX7_lowest) := goodIn_app (goodIn_of _ (by decide +kernel)) ggX7_off_X7_lowest
theorem dX7_off_0 : decode cX7_off 0 = .ok (.aload_n 0, 1) := by decide +kernel
theorem dX7_off_1 : decode cX7_off 1 = .ok (.iload_n 1, 1) := by decide +kernel
theorem dX7_off_2 : decode cX7_off 2 = .ok (.invokevirtual 35, 3) := by decide +kernel
theorem dX7_off_5 : decode cX7_off 5 = .ok (.ifCond .eq 23, 3) := by decide +kernel
theorem dX7_off_8 : decode cX7_off 8 = .ok (.iload_n 2, 1) := by decide +kernel
theorem dX7_off_9 : decode cX7_off 9 = .ok (.iconst 1, 1) := by decide +kernel
theorem dX7_off_10 : decode cX7_off 10 = .ok (.if_icmp .eq 8, 3) := by decide +kernel
theorem dX7_off_13 : decode cX7_off 13 = .ok (.iload_n 2, 1) := by decide +kernel
theorem dX7_off_14 : decode cX7_off 14 = .ok (.iconst (-1), 1) := by decide +kernel
theorem dX7_off_15 : decode cX7_off 15 = .ok (.if_icmp .ne 13, 3) := by decide +kernel
theorem dX7_off_18 : decode cX7_off 18 = .ok (.aload_n 0, 1) := by decide +kernel
theorem dX7_off_19 : decode cX7_off 19 = .ok (.iload_n 3, 1) := by decide +kernel
theorem dX7_off_20 : decode cX7_off 20 = .ok (.iconst 0, 1) := by decide +kernel
theorem dX7_off_21 : decode cX7_off 21 = .ok (.iconst 1, 1) := by decide +kernel
theorem dX7_off_22 : decode cX7_off 22 = .ok (.invokevirtual 7, 3) := by decide +kernel
theorem dX7_off_25 : decode cX7_off 25 = .ok (.ifCond .ne 7, 3) := by decide +kernel
theorem dX7_off_28 : decode cX7_off 28 = .ok (.ldc2_w 297, 3) := by decide +kernel
theorem dX7_off_31 : decode cX7_off 31 = .ok (.lreturn, 1) := by decide +kernel
theorem dX7_off_32 : decode cX7_off 32 = .ok (.aload_n 0, 1) := by decide +kernel
theorem dX7_off_33 : decode cX7_off 33 = .ok (.aload_n 0, 1) := by decide +kernel
theorem dX7_off_34 : decode cX7_off 34 = .ok (.getfield 18, 3) := by decide +kernel
theorem dX7_off_37 : decode cX7_off 37 = .ok (.iload_n 1, 1) := by decide +kernel
theorem dX7_off_38 : decode cX7_off 38 = .ok (.iaload, 1) := by decide +kernel
theorem dX7_off_39 : decode cX7_off 39 = .ok (.invokevirtual 283, 3) := by decide +kernel
theorem dX7_off_42 : decode cX7_off 42 = .ok (.aload_n 0, 1) := by decide +kernel
theorem dX7_off_43 : decode cX7_off 43 = .ok (.iload_n 1, 1) := by decide +kernel
theorem dX7_off_44 : decode cX7_off 44 = .ok (.aload_n 0, 1) := by decide +kernel
theorem dX7_off_45 : decode cX7_off 45 = .ok (.getfield 15, 3) := by decide +kernel
theorem dX7_off_48 : decode cX7_off 48 = .ok (.iload_n 1, 1) := by decide +kernel
theorem dX7_off_49 : decode cX7_off 49 = .ok (.iaload, 1) := by decide +kernel
theorem dX7_off_50 : decode cX7_off 50 = .ok (.aload_n 0, 1) := by decide +kernel
theorem dX7_off_51 : decode cX7_off 51 = .ok (.getfield 11, 3) := by decide +kernel
theorem dX7_off_54 : decode cX7_off 54 = .ok (.iload_n 1, 1) := by decide +kernel
theorem dX7_off_55 : decode cX7_off 55 = .ok (.iaload, 1) := by decide +kernel
theorem dX7_off_56 : decode cX7_off 56 = .ok (.aload_n 0, 1) := by decide +kernel
theorem dX7_off_57 : decode cX7_off 57 = .ok (.getfield 21, 3) := by decide +kernel
theorem dX7_off_60 : decode cX7_off 60 = .ok (.iload_n 1, 1) := by decide +kernel
theorem dX7_off_61 : decode cX7_off 61 = .ok (.iaload, 1) := by decide +kernel
theorem dX7_off_62 : decode cX7_off 62 = .ok (.invokevirtual 320, 3) := by decide +kernel
theorem dX7_off_65 : decode cX7_off 65 = .ok (.lstore 4, 2) := by decide +kernel
theorem dX7_off_67 : decode cX7_off 67 = .ok (.aload_n 0, 1) := by decide +kernel
theorem dX7_off_68 : decode cX7_off 68 = .ok (.lload 4, 2) := by decide +kernel
theorem dX7_off_70 : decode cX7_off 70 = .ok (.aload_n 0, 1) := by decide +kernel
theorem dX7_off_71 : decode cX7_off 71 = .ok (.iload_n 1, 1) := by decide +kernel
theorem dX7_off_72 : decode cX7_off 72 = .ok (.aload_n 0, 1) := by decide +kernel
theorem dX7_off_73 : decode cX7_off 73 = .ok (.aload_n 0, 1) := by decide +kernel
theorem dX7_off_74 : decode cX7_off 74 = .ok (.getfield 15, 3) := by decide +kernel
theorem dX7_off_77 : decode cX7_off 77 = .ok (.iload_n 1, 1) := by decide +kernel
theorem dX7_off_78 : decode cX7_off 78 = .ok (.iaload, 1) := by decide +kernel
theorem dX7_off_79 : decode cX7_off 79 = .ok (.iload_n 2, 1) := by decide +kernel
theorem dX7_off_80 : decode cX7_off 80 = .ok (.iadd, 1) := by decide +kernel
theorem dX7_off_81 : decode cX7_off 81 = .ok (.invokevirtual 255, 3) := by decide +kernel
theorem dX7_off_84 : decode cX7_off 84 = .ok (.aload_n 0, 1) := by decide +kernel
theorem dX7_off_85 : decode cX7_off 85 = .ok (.getfield 11, 3) := by decide +kernel
theorem dX7_off_88 : decode cX7_off 88 = .ok (.iload_n 1, 1) := by decide +kernel
theorem dX7_off_89 : decode cX7_off 89 = .ok (.iaload, 1) := by decide +kernel
theorem dX7_off_90 : decode cX7_off 90 = .ok (.aload_n 0, 1) := by decide +kernel
theorem dX7_off_91 : decode cX7_off 91 = .ok (.getfield 21, 3) := by decide +kernel
theorem dX7_off_94 : decode cX7_off 94 = .ok (.iload_n 1, 1) := by decide +kernel
theorem dX7_off_95 : decode cX7_off 95 = .ok (.iaload, 1) := by decide +kernel
theorem dX7_off_96 : decode cX7_off 96 = .ok (.invokevirtual 320, 3) := by decide +kernel
theorem dX7_off_99 : decode cX7_off 99 = .ok (.lsub, 1) := by decide +kernel
theorem dX7_off_100 : decode cX7_off 100 = .ok (.aload_n 0, 1) := by decide +kernel
theorem dX7_off_101 : decode cX7_off 101 = .ok (.iload_n 1, 1) := by decide +kernel
theorem dX7_off_102 : decode cX7_off 102 = .ok (.invokevirtual 327, 3) := by decide +kernel
theorem dX7_off_105 : decode cX7_off 105 = .ok (.iload_n 3, 1) := by decide +kernel
theorem dX7_off_106 : decode cX7_off 106 = .ok (.invokevirtual 302, 3) := by decide +kernel
theorem dX7_off_109 : decode cX7_off 109 = .ok (.lreturn, 1) := by decide +kernel
set_option maxRecDepth 100000 in
theorem ggX7_rule_X7_isPupil : GoodIn wsX7_rule wsX7_isPupil := goodIn_r _ [10, 11, 12, 13, 14, 9, 15, 90, 91, 92, 93, 94, 95, 96, 97, 98, 99, 100, 101, 102, 103, 104, 105, 106, 107, 108, 109, 110, 111, 112, 113, 114, 115, 116, 117, 118, 119, 120, 121, 122, 123, 124, 125, 126, 127, 128, 129, 130, 131, 132, 133, 134, 135, 136] rfl (by decide +kernel)
set_option maxRecDepth 100000 in
theorem gX7_rule_X7_isPupil : GoodIn wsX7_rule (wsV RX7 35 RX7 yX7_isPupil wsX7_isPupil) := goodIn_app (goodIn_of _ (by decide +kernel)) ggX7_rule_X7_isPupil
set_option maxRecDepth 100000 in
theorem ggX7_rule_X7_in : GoodIn wsX7_rule wsX7_in := goodIn_r _ [15] rfl (by decide +kernel)
set_option maxRecDepth 100000 in
theorem gX7_rule_X7_in : GoodIn wsX7_rule (wsV RX7 7 RX7 yX7_in wsX7_in) := goodIn_app (goodIn_of _ (by decide +kernel)) ggX7_rule_X7_in
set_option maxRecDepth 100000 in
theorem ggX7_rule_X7_layRule : GoodIn wsX7_rule wsX7_layRule := goodIn_r _ [19, 20, 21, 22, 23, 24, 25, 9, 26, 27, 28, 29, 30, 31, 32, 33, 34, 35, 36, 37, 38, 39, 40, 90, 91, 92, 93, 94, 95, 96, 97, 98, 99, 100, 101, 102, 103, 104, 105, 106, 107, 108, 109, 110, 111, 112, 113, 114, 115, 116, 117, 118, 119, 120, 121, 122, 123, 124, 125, 126, 127, 128, 129, 130, 131, 132, 133, 134, 135, 136] rfl (by decide +kernel)
set_option maxRecDepth 100000 in
theorem gX7_rule_X7_layRule : GoodIn wsX7_rule (wsV RX7 283 RX7 yX7_layRule wsX7_layRule) := goodIn_app (goodIn_of _ (by decide +kernel)) ggX7_rule_X7_layRule
set_option maxRecDepth 100000 in
theorem ggX7_rule_X7_meanOf : GoodIn wsX7_rule wsX7_meanOf := goodIn_r _ [44, 45, 46, 47, 48, 9, 49, 50, 51, 52, 53, 54, 55, 56, 57, 58, 59, 60, 61, 62, 63, 21, 22, 64, 65, 66, 67, 68, 69, 70, 71, 72, 73, 74, 75, 76, 77, 78, 79, 80, 81, 82, 83, 84, 85, 86, 87, 88, 89, 20, 90, 91, 92, 93, 94, 95, 96, 97, 98, 99, 100, 101, 102, 103, 104, 105, 106, 107, 108, 109, 110, 111, 112, 113, 114, 115, 116, 117, 118, 119, 120, 121, 122, 123, 124, 125, 126, 127, 128, 129, 130, 131, 132, 133, 134, 135, 136] rfl (by decide +kernel)
set_option maxRecDepth 100000 in
theorem gX7_rule_X7_meanOf : GoodIn wsX7_rule (wsV RX7 320 RX7 yX7_meanOf wsX7_meanOf) := goodIn_app (goodIn_of _ (by decide +kernel)) ggX7_rule_X7_meanOf
theorem dX7_rule_0 : decode cX7_rule 0 = .ok (.aload_n 0, 1) := by decide +kernel
theorem dX7_rule_1 : decode cX7_rule 1 = .ok (.iload_n 1, 1) := by decide +kernel
theorem dX7_rule_2 : decode cX7_rule 2 = .ok (.invokevirtual 35, 3) := by decide +kernel
theorem dX7_rule_5 : decode cX7_rule 5 = .ok (.ifCond .eq 13, 3) := by decide +kernel
theorem dX7_rule_8 : decode cX7_rule 8 = .ok (.aload_n 0, 1) := by decide +kernel
theorem dX7_rule_9 : decode cX7_rule 9 = .ok (.iload_n 2, 1) := by decide +kernel
theorem dX7_rule_10 : decode cX7_rule 10 = .ok (.iconst 0, 1) := by decide +kernel
theorem dX7_rule_11 : decode cX7_rule 11 = .ok (.iconst 1, 1) := by decide +kernel
theorem dX7_rule_12 : decode cX7_rule 12 = .ok (.invokevirtual 7, 3) := by decide +kernel
theorem dX7_rule_15 : decode cX7_rule 15 = .ok (.ifCond .ne 6, 3) := by decide +kernel
theorem dX7_rule_18 : decode cX7_rule 18 = .ok (.bipush (-2), 2) := by decide +kernel
theorem dX7_rule_20 : decode cX7_rule 20 = .ok (.ireturn, 1) := by decide +kernel
theorem dX7_rule_21 : decode cX7_rule 21 = .ok (.aload_n 0, 1) := by decide +kernel
theorem dX7_rule_22 : decode cX7_rule 22 = .ok (.aload_n 0, 1) := by decide +kernel
theorem dX7_rule_23 : decode cX7_rule 23 = .ok (.getfield 18, 3) := by decide +kernel
theorem dX7_rule_26 : decode cX7_rule 26 = .ok (.iload_n 1, 1) := by decide +kernel
theorem dX7_rule_27 : decode cX7_rule 27 = .ok (.iaload, 1) := by decide +kernel
theorem dX7_rule_28 : decode cX7_rule 28 = .ok (.invokevirtual 283, 3) := by decide +kernel
theorem dX7_rule_31 : decode cX7_rule 31 = .ok (.iconst 0, 1) := by decide +kernel
theorem dX7_rule_32 : decode cX7_rule 32 = .ok (.istore_n 3, 1) := by decide +kernel
theorem dX7_rule_33 : decode cX7_rule 33 = .ok (.ldc2_w 315, 3) := by decide +kernel
theorem dX7_rule_36 : decode cX7_rule 36 = .ok (.lstore 4, 2) := by decide +kernel
theorem dX7_rule_38 : decode cX7_rule 38 = .ok (.iconst 0, 1) := by decide +kernel
theorem dX7_rule_39 : decode cX7_rule 39 = .ok (.istore 6, 2) := by decide +kernel
theorem dX7_rule_41 : decode cX7_rule 41 = .ok (.iload 6, 2) := by decide +kernel
theorem dX7_rule_43 : decode cX7_rule 43 = .ok (.iload_n 2, 1) := by decide +kernel
theorem dX7_rule_44 : decode cX7_rule 44 = .ok (.ifCond .ne 8, 3) := by decide +kernel
theorem dX7_rule_47 : decode cX7_rule 47 = .ok (.bipush 10, 2) := by decide +kernel
theorem dX7_rule_49 : decode cX7_rule 49 = .ok (.goto 5, 3) := by decide +kernel
theorem dX7_rule_52 : decode cX7_rule 52 = .ok (.bipush 6, 2) := by decide +kernel
theorem dX7_rule_54 : decode cX7_rule 54 = .ok (.if_icmp .ge 74, 3) := by decide +kernel
theorem dX7_rule_57 : decode cX7_rule 57 = .ok (.iload_n 2, 1) := by decide +kernel
theorem dX7_rule_58 : decode cX7_rule 58 = .ok (.ifCond .ne 25, 3) := by decide +kernel
theorem dX7_rule_61 : decode cX7_rule 61 = .ok (.aload_n 0, 1) := by decide +kernel
theorem dX7_rule_62 : decode cX7_rule 62 = .ok (.iload_n 1, 1) := by decide +kernel
theorem dX7_rule_63 : decode cX7_rule 63 = .ok (.aload_n 0, 1) := by decide +kernel
theorem dX7_rule_64 : decode cX7_rule 64 = .ok (.getfield 15, 3) := by decide +kernel
theorem dX7_rule_67 : decode cX7_rule 67 = .ok (.iload_n 1, 1) := by decide +kernel
theorem dX7_rule_68 : decode cX7_rule 68 = .ok (.iaload, 1) := by decide +kernel
theorem dX7_rule_69 : decode cX7_rule 69 = .ok (.aload_n 0, 1) := by decide +kernel
theorem dX7_rule_70 : decode cX7_rule 70 = .ok (.getfield 11, 3) := by decide +kernel
theorem dX7_rule_73 : decode cX7_rule 73 = .ok (.iload_n 1, 1) := by decide +kernel
theorem dX7_rule_74 : decode cX7_rule 74 = .ok (.iaload, 1) := by decide +kernel
theorem dX7_rule_75 : decode cX7_rule 75 = .ok (.iload 6, 2) := by decide +kernel
theorem dX7_rule_77 : decode cX7_rule 77 = .ok (.invokevirtual 320, 3) := by decide +kernel
theorem dX7_rule_80 : decode cX7_rule 80 = .ok (.goto 22, 3) := by decide +kernel
theorem dX7_rule_83 : decode cX7_rule 83 = .ok (.aload_n 0, 1) := by decide +kernel
theorem dX7_rule_84 : decode cX7_rule 84 = .ok (.iload_n 1, 1) := by decide +kernel
theorem dX7_rule_85 : decode cX7_rule 85 = .ok (.aload_n 0, 1) := by decide +kernel
theorem dX7_rule_86 : decode cX7_rule 86 = .ok (.getfield 15, 3) := by decide +kernel
theorem dX7_rule_89 : decode cX7_rule 89 = .ok (.iload_n 1, 1) := by decide +kernel
theorem dX7_rule_90 : decode cX7_rule 90 = .ok (.iaload, 1) := by decide +kernel
theorem dX7_rule_91 : decode cX7_rule 91 = .ok (.iload 6, 2) := by decide +kernel
theorem dX7_rule_93 : decode cX7_rule 93 = .ok (.aload_n 0, 1) := by decide +kernel
theorem dX7_rule_94 : decode cX7_rule 94 = .ok (.getfield 21, 3) := by decide +kernel
theorem dX7_rule_97 : decode cX7_rule 97 = .ok (.iload_n 1, 1) := by decide +kernel
theorem dX7_rule_98 : decode cX7_rule 98 = .ok (.iaload, 1) := by decide +kernel
theorem dX7_rule_99 : decode cX7_rule 99 = .ok (.invokevirtual 320, 3) := by decide +kernel
theorem dX7_rule_102 : decode cX7_rule 102 = .ok (.lstore 7, 2) := by decide +kernel
theorem dX7_rule_104 : decode cX7_rule 104 = .ok (.lload 7, 2) := by decide +kernel
theorem dX7_rule_106 : decode cX7_rule 106 = .ok (.lload 4, 2) := by decide +kernel
theorem dX7_rule_108 : decode cX7_rule 108 = .ok (.lcmp, 1) := by decide +kernel
theorem dX7_rule_109 : decode cX7_rule 109 = .ok (.ifCond .gt 6, 3) := by decide +kernel
theorem dX7_rule_112 : decode cX7_rule 112 = .ok (.goto 10, 3) := by decide +kernel
theorem dX7_rule_115 : decode cX7_rule 115 = .ok (.iload 6, 2) := by decide +kernel
theorem dX7_rule_117 : decode cX7_rule 117 = .ok (.istore_n 3, 1) := by decide +kernel
theorem dX7_rule_118 : decode cX7_rule 118 = .ok (.lload 7, 2) := by decide +kernel
theorem dX7_rule_120 : decode cX7_rule 120 = .ok (.lstore 4, 2) := by decide +kernel
theorem dX7_rule_122 : decode cX7_rule 122 = .ok (.iinc 6 1, 3) := by decide +kernel
theorem dX7_rule_125 : decode cX7_rule 125 = .ok (.goto (-84), 3) := by decide +kernel
theorem dX7_rule_128 : decode cX7_rule 128 = .ok (.iload_n 3, 1) := by decide +kernel
theorem dX7_rule_129 : decode cX7_rule 129 = .ok (.ireturn, 1) := by decide +kernel
set_option maxRecDepth 100000 in
theorem ggX7_room_X7_in : GoodIn wsX7_room wsX7_in := goodIn_r _ [12] rfl (by decide +kernel)
set_option maxRecDepth 100000 in
theorem gX7_room_X7_in : GoodIn wsX7_room (wsV RX7 7 RX7 yX7_in wsX7_in) := goodIn_app (goodIn_of _ (by decide +kernel)) ggX7_room_X7_in
set_option maxRecDepth 100000 in
theorem ggX7_room_X7_isSheet : GoodIn wsX7_room wsX7_isSheet := goodIn_r _ [16, 8, 9, 10, 11, 12] rfl (by decide +kernel)
set_option maxRecDepth 100000 in
theorem gX7_room_X7_isSheet : GoodIn wsX7_room (wsV RX7 330 RX7 yX7_isSheet wsX7_isSheet) := goodIn_app (goodIn_of _ (by decide +kernel)) ggX7_room_X7_isSheet
set_option maxRecDepth 100000 in
theorem ggX7_room_X7_areMarks : GoodIn wsX7_room wsX7_areMarks := goodIn_r _ [20, 8, 9, 10, 11, 12] rfl (by decide +kernel)
set_option maxRecDepth 100000 in
theorem gX7_room_X7_areMarks : GoodIn wsX7_room (wsV RX7 294 RX7 yX7_areMarks wsX7_areMarks) := goodIn_app (goodIn_of _ (by decide +kernel)) ggX7_room_X7_areMarks
set_option maxRecDepth 100000 in
theorem ggX7_room_X7_goMarks : GoodIn wsX7_room wsX7_goMarks := goodIn_r _ [24, 25, 26, 27, 28, 29, 30, 31, 11, 32, 33, 34, 35, 36, 37, 38, 39, 40, 41, 42, 43, 44, 45, 46, 47, 48, 49, 50, 51, 52, 53, 54, 55, 56, 57, 58, 59, 60, 61, 62, 63, 64, 7, 65, 66, 67, 68, 69, 70, 71, 72, 73, 74, 75, 76, 77, 78, 79, 80, 81, 82, 83, 84, 85, 86, 87, 88, 89, 90, 91, 92, 93, 94, 95, 96, 97, 98, 99, 100, 101, 102, 103, 104, 105, 106, 107, 108, 109, 110, 111, 112, 113, 114, 115, 116, 117, 118, 119, 120, 121, 122, 123, 124, 125, 126, 127, 128, 129, 130, 131, 132, 133, 134, 135, 136, 137, 138, 139] rfl (by decide +kernel)
set_option maxRecDepth 100000 in
theorem gX7_room_X7_goMarks : GoodIn wsX7_room (wsV RX7 299 RX7 yX7_goMarks wsX7_goMarks) := goodIn_app (goodIn_of _ (by decide +kernel)) ggX7_room_X7_goMarks
set_option maxRecDepth 100000 in
theorem ggX7_room_X7_sumRow : GoodIn wsX7_room wsX7_sumRow := goodIn_r _ [80, 63, 93, 94, 95, 96, 97, 98, 99, 100, 101, 102, 103, 104, 105, 106, 107, 108, 109, 110, 111, 112, 113, 114, 115, 116, 117, 118, 119, 120, 121, 122, 123, 124, 125, 126, 127, 128, 129, 130, 131, 132, 133, 134, 135, 136, 137, 138, 139] rfl (by decide +kernel)
set_option maxRecDepth 100000 in
theorem gX7_room_X7_sumRow : GoodIn wsX7_room (wsV RX7 258 RX7 yX7_sumRow wsX7_sumRow) := goodIn_app (goodIn_of _ (by decide +kernel)) ggX7_room_X7_sumRow
set_option maxRecDepth 100000 in
theorem ggX7_room_X7_sumFrom : GoodIn wsX7_room wsX7_sumFrom := goodIn_r _ [84, 63, 93, 94, 95, 96, 97, 98, 99, 100, 101, 102, 103, 104, 105, 106, 107, 108, 109, 110, 111, 112, 113, 114, 115, 116, 117, 118, 119, 120, 121, 122, 123, 124, 125, 126, 127, 128, 129, 130, 131, 132, 133, 134, 135, 136, 137, 138, 139] rfl (by decide +kernel)
set_option maxRecDepth 100000 in
theorem gX7_room_X7_sumFrom : GoodIn wsX7_room (wsV RX7 262 RX7 yX7_sumFrom wsX7_sumFrom) := goodIn_app (goodIn_of _ (by decide +kernel)) ggX7_room_X7_sumFrom
theorem dX7_room_0 : decode cX7_room 0 = .ok (.aload_n 0, 1) := by decide +kernel
theorem dX7_room_1 : decode cX7_room 1 = .ok (.iload_n 1, 1) := by decide +kernel
theorem dX7_room_2 : decode cX7_room 2 = .ok (.iconst 0, 1) := by decide +kernel
theorem dX7_room_3 : decode cX7_room 3 = .ok (.iconst 1, 1) := by decide +kernel
theorem dX7_room_4 : decode cX7_room 4 = .ok (.aload_n 0, 1) := by decide +kernel
theorem dX7_room_5 : decode cX7_room 5 = .ok (.getfield 1, 3) := by decide +kernel
theorem dX7_room_8 : decode cX7_room 8 = .ok (.ishl, 1) := by decide +kernel
theorem dX7_room_9 : decode cX7_room 9 = .ok (.iconst 1, 1) := by decide +kernel
theorem dX7_room_10 : decode cX7_room 10 = .ok (.isub, 1) := by decide +kernel
theorem dX7_room_11 : decode cX7_room 11 = .ok (.invokevirtual 7, 3) := by decide +kernel
theorem dX7_room_14 : decode cX7_room 14 = .ok (.ifCond .eq 22, 3) := by decide +kernel
theorem dX7_room_17 : decode cX7_room 17 = .ok (.aload_n 0, 1) := by decide +kernel
theorem dX7_room_18 : decode cX7_room 18 = .ok (.iload_n 2, 1) := by decide +kernel
theorem dX7_room_19 : decode cX7_room 19 = .ok (.iconst 0, 1) := by decide +kernel
theorem dX7_room_20 : decode cX7_room 20 = .ok (.bipush 8, 2) := by decide +kernel
theorem dX7_room_22 : decode cX7_room 22 = .ok (.invokevirtual 7, 3) := by decide +kernel
theorem dX7_room_25 : decode cX7_room 25 = .ok (.ifCond .eq 11, 3) := by decide +kernel
theorem dX7_room_28 : decode cX7_room 28 = .ok (.aload_n 0, 1) := by decide +kernel
theorem dX7_room_29 : decode cX7_room 29 = .ok (.iload_n 3, 1) := by decide +kernel
theorem dX7_room_30 : decode cX7_room 30 = .ok (.invokevirtual 330, 3) := by decide +kernel
theorem dX7_room_33 : decode cX7_room 33 = .ok (.ifCond .ne 6, 3) := by decide +kernel
theorem dX7_room_36 : decode cX7_room 36 = .ok (.bipush (-2), 2) := by decide +kernel
theorem dX7_room_38 : decode cX7_room 38 = .ok (.ireturn, 1) := by decide +kernel
theorem dX7_room_39 : decode cX7_room 39 = .ok (.aload_n 0, 1) := by decide +kernel
theorem dX7_room_40 : decode cX7_room 40 = .ok (.getfield 165, 3) := by decide +kernel
theorem dX7_room_43 : decode cX7_room 43 = .ok (.iload_n 3, 1) := by decide +kernel
theorem dX7_room_44 : decode cX7_room 44 = .ok (.iaload, 1) := by decide +kernel
theorem dX7_room_45 : decode cX7_room 45 = .ok (.ifCond .ge 6, 3) := by decide +kernel
theorem dX7_room_48 : decode cX7_room 48 = .ok (.bipush (-11), 2) := by decide +kernel
theorem dX7_room_50 : decode cX7_room 50 = .ok (.ireturn, 1) := by decide +kernel
theorem dX7_room_51 : decode cX7_room 51 = .ok (.aload_n 0, 1) := by decide +kernel
theorem dX7_room_52 : decode cX7_room 52 = .ok (.getfield 168, 3) := by decide +kernel
theorem dX7_room_55 : decode cX7_room 55 = .ok (.iload_n 3, 1) := by decide +kernel
theorem dX7_room_56 : decode cX7_room 56 = .ok (.iaload, 1) := by decide +kernel
theorem dX7_room_57 : decode cX7_room 57 = .ok (.aload_n 0, 1) := by decide +kernel
theorem dX7_room_58 : decode cX7_room 58 = .ok (.getfield 1, 3) := by decide +kernel
theorem dX7_room_61 : decode cX7_room 61 = .ok (.if_icmp .eq 6, 3) := by decide +kernel
theorem dX7_room_64 : decode cX7_room 64 = .ok (.bipush (-2), 2) := by decide +kernel
theorem dX7_room_66 : decode cX7_room 66 = .ok (.ireturn, 1) := by decide +kernel
theorem dX7_room_67 : decode cX7_room 67 = .ok (.iconst 0, 1) := by decide +kernel
theorem dX7_room_68 : decode cX7_room 68 = .ok (.istore 4, 2) := by decide +kernel
theorem dX7_room_70 : decode cX7_room 70 = .ok (.iload 4, 2) := by decide +kernel
theorem dX7_room_72 : decode cX7_room 72 = .ok (.aload_n 0, 1) := by decide +kernel
theorem dX7_room_73 : decode cX7_room 73 = .ok (.getfield 1, 3) := by decide +kernel
theorem dX7_room_76 : decode cX7_room 76 = .ok (.if_icmp .ge 31, 3) := by decide +kernel
theorem dX7_room_79 : decode cX7_room 79 = .ok (.aload_n 0, 1) := by decide +kernel
theorem dX7_room_80 : decode cX7_room 80 = .ok (.aload_n 0, 1) := by decide +kernel
theorem dX7_room_81 : decode cX7_room 81 = .ok (.getfield 171, 3) := by decide +kernel
theorem dX7_room_84 : decode cX7_room 84 = .ok (.bipush 40, 2) := by decide +kernel
theorem dX7_room_86 : decode cX7_room 86 = .ok (.iload_n 3, 1) := by decide +kernel
theorem dX7_room_87 : decode cX7_room 87 = .ok (.imul, 1) := by decide +kernel
theorem dX7_room_88 : decode cX7_room 88 = .ok (.iload 4, 2) := by decide +kernel
theorem dX7_room_90 : decode cX7_room 90 = .ok (.iadd, 1) := by decide +kernel
theorem dX7_room_91 : decode cX7_room 91 = .ok (.iaload, 1) := by decide +kernel
theorem dX7_room_92 : decode cX7_room 92 = .ok (.invokevirtual 294, 3) := by decide +kernel
theorem dX7_room_95 : decode cX7_room 95 = .ok (.ifCond .ne 6, 3) := by decide +kernel
theorem dX7_room_98 : decode cX7_room 98 = .ok (.bipush (-2), 2) := by decide +kernel
theorem dX7_room_100 : decode cX7_room 100 = .ok (.ireturn, 1) := by decide +kernel
theorem dX7_room_101 : decode cX7_room 101 = .ok (.iinc 4 1, 3) := by decide +kernel
theorem dX7_room_104 : decode cX7_room 104 = .ok (.goto (-34), 3) := by decide +kernel
theorem dX7_room_107 : decode cX7_room 107 = .ok (.iconst 0, 1) := by decide +kernel
theorem dX7_room_108 : decode cX7_room 108 = .ok (.istore 4, 2) := by decide +kernel
theorem dX7_room_110 : decode cX7_room 110 = .ok (.iload 4, 2) := by decide +kernel
theorem dX7_room_112 : decode cX7_room 112 = .ok (.aload_n 0, 1) := by decide +kernel
theorem dX7_room_113 : decode cX7_room 113 = .ok (.getfield 1, 3) := by decide +kernel
theorem dX7_room_116 : decode cX7_room 116 = .ok (.if_icmp .ge 90, 3) := by decide +kernel
theorem dX7_room_119 : decode cX7_room 119 = .ok (.aload_n 0, 1) := by decide +kernel
theorem dX7_room_120 : decode cX7_room 120 = .ok (.iload 4, 2) := by decide +kernel
theorem dX7_room_122 : decode cX7_room 122 = .ok (.aload_n 0, 1) := by decide +kernel
theorem dX7_room_123 : decode cX7_room 123 = .ok (.getfield 171, 3) := by decide +kernel
theorem dX7_room_126 : decode cX7_room 126 = .ok (.bipush 40, 2) := by decide +kernel
theorem dX7_room_128 : decode cX7_room 128 = .ok (.iload_n 3, 1) := by decide +kernel
theorem dX7_room_129 : decode cX7_room 129 = .ok (.imul, 1) := by decide +kernel
theorem dX7_room_130 : decode cX7_room 130 = .ok (.iload 4, 2) := by decide +kernel
theorem dX7_room_132 : decode cX7_room 132 = .ok (.iadd, 1) := by decide +kernel
theorem dX7_room_133 : decode cX7_room 133 = .ok (.iaload, 1) := by decide +kernel
theorem dX7_room_134 : decode cX7_room 134 = .ok (.invokevirtual 299, 3) := by decide +kernel
theorem dX7_room_137 : decode cX7_room 137 = .ok (.aload_n 0, 1) := by decide +kernel
theorem dX7_room_138 : decode cX7_room 138 = .ok (.getfield 171, 3) := by decide +kernel
theorem dX7_room_141 : decode cX7_room 141 = .ok (.bipush 40, 2) := by decide +kernel
theorem dX7_room_143 : decode cX7_room 143 = .ok (.iload_n 3, 1) := by decide +kernel
theorem dX7_room_144 : decode cX7_room 144 = .ok (.imul, 1) := by decide +kernel
theorem dX7_room_145 : decode cX7_room 145 = .ok (.iload 4, 2) := by decide +kernel
theorem dX7_room_147 : decode cX7_room 147 = .ok (.iadd, 1) := by decide +kernel
theorem dX7_room_148 : decode cX7_room 148 = .ok (.iaload, 1) := by decide +kernel
theorem dX7_room_149 : decode cX7_room 149 = .ok (.bipush 100, 2) := by decide +kernel
theorem dX7_room_151 : decode cX7_room 151 = .ok (.idiv, 1) := by decide +kernel
theorem dX7_room_152 : decode cX7_room 152 = .ok (.istore 5, 2) := by decide +kernel
theorem dX7_room_154 : decode cX7_room 154 = .ok (.aload_n 0, 1) := by decide +kernel
theorem dX7_room_155 : decode cX7_room 155 = .ok (.getfield 143, 3) := by decide +kernel
theorem dX7_room_158 : decode cX7_room 158 = .ok (.iload 4, 2) := by decide +kernel
theorem dX7_room_160 : decode cX7_room 160 = .ok (.aload_n 0, 1) := by decide +kernel
theorem dX7_room_161 : decode cX7_room 161 = .ok (.iload 5, 2) := by decide +kernel
theorem dX7_room_163 : decode cX7_room 163 = .ok (.invokevirtual 258, 3) := by decide +kernel
theorem dX7_room_166 : decode cX7_room 166 = .ok (.lconst 0, 1) := by decide +kernel
theorem dX7_room_167 : decode cX7_room 167 = .ok (.lcmp, 1) := by decide +kernel
theorem dX7_room_168 : decode cX7_room 168 = .ok (.ifCond .ne 7, 3) := by decide +kernel
theorem dX7_room_171 : decode cX7_room 171 = .ok (.lconst 0, 1) := by decide +kernel
theorem dX7_room_172 : decode cX7_room 172 = .ok (.goto 27, 3) := by decide +kernel
theorem dX7_room_175 : decode cX7_room 175 = .ok (.ldc2_w 333, 3) := by decide +kernel
theorem dX7_room_178 : decode cX7_room 178 = .ok (.aload_n 0, 1) := by decide +kernel
theorem dX7_room_179 : decode cX7_room 179 = .ok (.iload 5, 2) := by decide +kernel
theorem dX7_room_181 : decode cX7_room 181 = .ok (.aload_n 0, 1) := by decide +kernel
theorem dX7_room_182 : decode cX7_room 182 = .ok (.getfield 114, 3) := by decide +kernel
theorem dX7_room_185 : decode cX7_room 185 = .ok (.iload 5, 2) := by decide +kernel
theorem dX7_room_187 : decode cX7_room 187 = .ok (.iaload, 1) := by decide +kernel
theorem dX7_room_188 : decode cX7_room 188 = .ok (.invokevirtual 262, 3) := by decide +kernel
theorem dX7_room_191 : decode cX7_room 191 = .ok (.lmul, 1) := by decide +kernel
theorem dX7_room_192 : decode cX7_room 192 = .ok (.aload_n 0, 1) := by decide +kernel
theorem dX7_room_193 : decode cX7_room 193 = .ok (.iload 5, 2) := by decide +kernel
theorem dX7_room_195 : decode cX7_room 195 = .ok (.invokevirtual 258, 3) := by decide +kernel
theorem dX7_room_198 : decode cX7_room 198 = .ok (.ldiv, 1) := by decide +kernel
theorem dX7_room_199 : decode cX7_room 199 = .ok (.lastore, 1) := by decide +kernel
theorem dX7_room_200 : decode cX7_room 200 = .ok (.iinc 4 1, 3) := by decide +kernel
theorem dX7_room_203 : decode cX7_room 203 = .ok (.goto (-93), 3) := by decide +kernel
theorem dX7_room_206 : decode cX7_room 206 = .ok (.iconst 0, 1) := by decide +kernel
theorem dX7_room_207 : decode cX7_room 207 = .ok (.istore 4, 2) := by decide +kernel
theorem dX7_room_209 : decode cX7_room 209 = .ok (.iconst 0, 1) := by decide +kernel
theorem dX7_room_210 : decode cX7_room 210 = .ok (.istore 5, 2) := by decide +kernel
theorem dX7_room_212 : decode cX7_room 212 = .ok (.iload 5, 2) := by decide +kernel
theorem dX7_room_214 : decode cX7_room 214 = .ok (.iload_n 2, 1) := by decide +kernel
theorem dX7_room_215 : decode cX7_room 215 = .ok (.if_icmp .ge 96, 3) := by decide +kernel
theorem dX7_room_218 : decode cX7_room 218 = .ok (.iconst (-1), 1) := by decide +kernel
theorem dX7_room_219 : decode cX7_room 219 = .ok (.istore 6, 2) := by decide +kernel
theorem dX7_room_221 : decode cX7_room 221 = .ok (.aload_n 0, 1) := by decide +kernel
theorem dX7_room_222 : decode cX7_room 222 = .ok (.getfield 1, 3) := by decide +kernel
theorem dX7_room_225 : decode cX7_room 225 = .ok (.iconst 1, 1) := by decide +kernel
theorem dX7_room_226 : decode cX7_room 226 = .ok (.isub, 1) := by decide +kernel
theorem dX7_room_227 : decode cX7_room 227 = .ok (.istore 7, 2) := by decide +kernel
theorem dX7_room_229 : decode cX7_room 229 = .ok (.iload 7, 2) := by decide +kernel
theorem dX7_room_231 : decode cX7_room 231 = .ok (.ifCond .lt 56, 3) := by decide +kernel
theorem dX7_room_234 : decode cX7_room 234 = .ok (.iload_n 1, 1) := by decide +kernel
theorem dX7_room_235 : decode cX7_room 235 = .ok (.iload 7, 2) := by decide +kernel
theorem dX7_room_237 : decode cX7_room 237 = .ok (.ishr, 1) := by decide +kernel
theorem dX7_room_238 : decode cX7_room 238 = .ok (.iconst 1, 1) := by decide +kernel
theorem dX7_room_239 : decode cX7_room 239 = .ok (.iand, 1) := by decide +kernel
theorem dX7_room_240 : decode cX7_room 240 = .ok (.iconst 1, 1) := by decide +kernel
theorem dX7_room_241 : decode cX7_room 241 = .ok (.if_icmp .ne 40, 3) := by decide +kernel
theorem dX7_room_244 : decode cX7_room 244 = .ok (.iload 4, 2) := by decide +kernel
theorem dX7_room_246 : decode cX7_room 246 = .ok (.iload 7, 2) := by decide +kernel
theorem dX7_room_248 : decode cX7_room 248 = .ok (.ishr, 1) := by decide +kernel
theorem dX7_room_249 : decode cX7_room 249 = .ok (.iconst 1, 1) := by decide +kernel
theorem dX7_room_250 : decode cX7_room 250 = .ok (.iand, 1) := by decide +kernel
theorem dX7_room_251 : decode cX7_room 251 = .ok (.ifCond .ne 30, 3) := by decide +kernel
theorem dX7_room_254 : decode cX7_room 254 = .ok (.iload 6, 2) := by decide +kernel
theorem dX7_room_256 : decode cX7_room 256 = .ok (.ifCond .lt 21, 3) := by decide +kernel
theorem dX7_room_259 : decode cX7_room 259 = .ok (.aload_n 0, 1) := by decide +kernel
theorem dX7_room_260 : decode cX7_room 260 = .ok (.getfield 143, 3) := by decide +kernel
theorem dX7_room_263 : decode cX7_room 263 = .ok (.iload 7, 2) := by decide +kernel
theorem dX7_room_265 : decode cX7_room 265 = .ok (.laload, 1) := by decide +kernel
theorem dX7_room_266 : decode cX7_room 266 = .ok (.aload_n 0, 1) := by decide +kernel
theorem dX7_room_267 : decode cX7_room 267 = .ok (.getfield 143, 3) := by decide +kernel
theorem dX7_room_270 : decode cX7_room 270 = .ok (.iload 6, 2) := by decide +kernel
theorem dX7_room_272 : decode cX7_room 272 = .ok (.laload, 1) := by decide +kernel
theorem dX7_room_273 : decode cX7_room 273 = .ok (.lcmp, 1) := by decide +kernel
theorem dX7_room_274 : decode cX7_room 274 = .ok (.ifCond .lt 7, 3) := by decide +kernel
theorem dX7_room_277 : decode cX7_room 277 = .ok (.iload 7, 2) := by decide +kernel
theorem dX7_room_279 : decode cX7_room 279 = .ok (.istore 6, 2) := by decide +kernel
theorem dX7_room_281 : decode cX7_room 281 = .ok (.iinc 7 (-1), 3) := by decide +kernel
theorem dX7_room_284 : decode cX7_room 284 = .ok (.goto (-55), 3) := by decide +kernel
theorem dX7_room_287 : decode cX7_room 287 = .ok (.iload 4, 2) := by decide +kernel
theorem dX7_room_289 : decode cX7_room 289 = .ok (.iload 6, 2) := by decide +kernel
theorem dX7_room_291 : decode cX7_room 291 = .ok (.ifCond .ge 7, 3) := by decide +kernel
theorem dX7_room_294 : decode cX7_room 294 = .ok (.iconst 0, 1) := by decide +kernel
theorem dX7_room_295 : decode cX7_room 295 = .ok (.goto 7, 3) := by decide +kernel
theorem dX7_room_298 : decode cX7_room 298 = .ok (.iconst 1, 1) := by decide +kernel
theorem dX7_room_299 : decode cX7_room 299 = .ok (.iload 6, 2) := by decide +kernel
theorem dX7_room_301 : decode cX7_room 301 = .ok (.ishl, 1) := by decide +kernel
theorem dX7_room_302 : decode cX7_room 302 = .ok (.ior, 1) := by decide +kernel
theorem dX7_room_303 : decode cX7_room 303 = .ok (.istore 4, 2) := by decide +kernel
theorem dX7_room_305 : decode cX7_room 305 = .ok (.iinc 5 1, 3) := by decide +kernel
theorem dX7_room_308 : decode cX7_room 308 = .ok (.goto (-96), 3) := by decide +kernel
theorem dX7_room_311 : decode cX7_room 311 = .ok (.iload 4, 2) := by decide +kernel
theorem dX7_room_313 : decode cX7_room 313 = .ok (.ireturn, 1) := by decide +kernel
set_option maxRecDepth 100000 in
theorem ggX7_becomes_X7_divisor : GoodIn wsX7_becomes wsX7_divisor := goodIn_r _ [8] rfl (by decide +kernel)
set_option maxRecDepth 100000 in
theorem gX7_becomes_X7_divisor : GoodIn wsX7_becomes (wsV RX7 290 RX7 yX7_divisor wsX7_divisor) := goodIn_app (goodIn_of _ (by decide +kernel)) ggX7_becomes_X7_divisor
theorem dX7_becomes_0 : decode cX7_becomes 0 = .ok (.lconst 0, 1) := by decide +kernel
theorem dX7_becomes_1 : decode cX7_becomes 1 = .ok (.lstore_n 2, 1) := by decide +kernel
theorem dX7_becomes_2 : decode cX7_becomes 2 = .ok (.lconst 0, 1) := by decide +kernel
theorem dX7_becomes_3 : decode cX7_becomes 3 = .ok (.lstore 4, 2) := by decide +kernel
theorem dX7_becomes_5 : decode cX7_becomes 5 = .ok (.iconst 0, 1) := by decide +kernel
theorem dX7_becomes_6 : decode cX7_becomes 6 = .ok (.istore 6, 2) := by decide +kernel
theorem dX7_becomes_8 : decode cX7_becomes 8 = .ok (.iload 6, 2) := by decide +kernel
theorem dX7_becomes_10 : decode cX7_becomes 10 = .ok (.iconst 5, 1) := by decide +kernel
theorem dX7_becomes_11 : decode cX7_becomes 11 = .ok (.if_icmp .ge 34, 3) := by decide +kernel
theorem dX7_becomes_14 : decode cX7_becomes 14 = .ok (.aload_n 0, 1) := by decide +kernel
theorem dX7_becomes_15 : decode cX7_becomes 15 = .ok (.lload_n 2, 1) := by decide +kernel
theorem dX7_becomes_16 : decode cX7_becomes 16 = .ok (.aload_n 0, 1) := by decide +kernel
theorem dX7_becomes_17 : decode cX7_becomes 17 = .ok (.getfield 146, 3) := by decide +kernel
theorem dX7_becomes_20 : decode cX7_becomes 20 = .ok (.iload 6, 2) := by decide +kernel
theorem dX7_becomes_22 : decode cX7_becomes 22 = .ok (.laload, 1) := by decide +kernel
theorem dX7_becomes_23 : decode cX7_becomes 23 = .ok (.invokevirtual 290, 3) := by decide +kernel
theorem dX7_becomes_26 : decode cX7_becomes 26 = .ok (.lstore_n 2, 1) := by decide +kernel
theorem dX7_becomes_27 : decode cX7_becomes 27 = .ok (.lload 4, 2) := by decide +kernel
theorem dX7_becomes_29 : decode cX7_becomes 29 = .ok (.aload_n 0, 1) := by decide +kernel
theorem dX7_becomes_30 : decode cX7_becomes 30 = .ok (.getfield 146, 3) := by decide +kernel
theorem dX7_becomes_33 : decode cX7_becomes 33 = .ok (.iload 6, 2) := by decide +kernel
theorem dX7_becomes_35 : decode cX7_becomes 35 = .ok (.laload, 1) := by decide +kernel
theorem dX7_becomes_36 : decode cX7_becomes 36 = .ok (.ladd, 1) := by decide +kernel
theorem dX7_becomes_37 : decode cX7_becomes 37 = .ok (.lstore 4, 2) := by decide +kernel
theorem dX7_becomes_39 : decode cX7_becomes 39 = .ok (.iinc 6 1, 3) := by decide +kernel
theorem dX7_becomes_42 : decode cX7_becomes 42 = .ok (.goto (-34), 3) := by decide +kernel
theorem dX7_becomes_45 : decode cX7_becomes 45 = .ok (.lload 4, 2) := by decide +kernel
theorem dX7_becomes_47 : decode cX7_becomes 47 = .ok (.lconst 0, 1) := by decide +kernel
theorem dX7_becomes_48 : decode cX7_becomes 48 = .ok (.lcmp, 1) := by decide +kernel
theorem dX7_becomes_49 : decode cX7_becomes 49 = .ok (.ifCond .eq 14, 3) := by decide +kernel
theorem dX7_becomes_52 : decode cX7_becomes 52 = .ok (.lload 4, 2) := by decide +kernel
theorem dX7_becomes_54 : decode cX7_becomes 54 = .ok (.lload_n 2, 1) := by decide +kernel
theorem dX7_becomes_55 : decode cX7_becomes 55 = .ok (.ldiv, 1) := by decide +kernel
theorem dX7_becomes_56 : decode cX7_becomes 56 = .ok (.ldc2_w 335, 3) := by decide +kernel
theorem dX7_becomes_59 : decode cX7_becomes 59 = .ok (.lcmp, 1) := by decide +kernel
theorem dX7_becomes_60 : decode cX7_becomes 60 = .ok (.ifCond .le 5, 3) := by decide +kernel
theorem dX7_becomes_63 : decode cX7_becomes 63 = .ok (.iconst 0, 1) := by decide +kernel
theorem dX7_becomes_64 : decode cX7_becomes 64 = .ok (.ireturn, 1) := by decide +kernel
theorem dX7_becomes_65 : decode cX7_becomes 65 = .ok (.iconst 0, 1) := by decide +kernel
theorem dX7_becomes_66 : decode cX7_becomes 66 = .ok (.istore 6, 2) := by decide +kernel
theorem dX7_becomes_68 : decode cX7_becomes 68 = .ok (.iload 6, 2) := by decide +kernel
theorem dX7_becomes_70 : decode cX7_becomes 70 = .ok (.iconst 5, 1) := by decide +kernel
theorem dX7_becomes_71 : decode cX7_becomes 71 = .ok (.if_icmp .ge 30, 3) := by decide +kernel
theorem dX7_becomes_74 : decode cX7_becomes 74 = .ok (.aload_n 0, 1) := by decide +kernel
theorem dX7_becomes_75 : decode cX7_becomes 75 = .ok (.getfield 24, 3) := by decide +kernel
theorem dX7_becomes_78 : decode cX7_becomes 78 = .ok (.iconst 5, 1) := by decide +kernel
theorem dX7_becomes_79 : decode cX7_becomes 79 = .ok (.iload_n 1, 1) := by decide +kernel
theorem dX7_becomes_80 : decode cX7_becomes 80 = .ok (.imul, 1) := by decide +kernel
theorem dX7_becomes_81 : decode cX7_becomes 81 = .ok (.iload 6, 2) := by decide +kernel
theorem dX7_becomes_83 : decode cX7_becomes 83 = .ok (.iadd, 1) := by decide +kernel
theorem dX7_becomes_84 : decode cX7_becomes 84 = .ok (.aload_n 0, 1) := by decide +kernel
theorem dX7_becomes_85 : decode cX7_becomes 85 = .ok (.getfield 146, 3) := by decide +kernel
theorem dX7_becomes_88 : decode cX7_becomes 88 = .ok (.iload 6, 2) := by decide +kernel
theorem dX7_becomes_90 : decode cX7_becomes 90 = .ok (.laload, 1) := by decide +kernel
theorem dX7_becomes_91 : decode cX7_becomes 91 = .ok (.lload_n 2, 1) := by decide +kernel
theorem dX7_becomes_92 : decode cX7_becomes 92 = .ok (.ldiv, 1) := by decide +kernel
theorem dX7_becomes_93 : decode cX7_becomes 93 = .ok (.l2i, 1) := by decide +kernel
theorem dX7_becomes_94 : decode cX7_becomes 94 = .ok (.iastore, 1) := by decide +kernel
theorem dX7_becomes_95 : decode cX7_becomes 95 = .ok (.iinc 6 1, 3) := by decide +kernel
theorem dX7_becomes_98 : decode cX7_becomes 98 = .ok (.goto (-30), 3) := by decide +kernel
theorem dX7_becomes_101 : decode cX7_becomes 101 = .ok (.iconst 1, 1) := by decide +kernel
theorem dX7_becomes_102 : decode cX7_becomes 102 = .ok (.ireturn, 1) := by decide +kernel
set_option maxRecDepth 100000 in
theorem ggX7_summer_X7_isPupil : GoodIn wsX7_summer wsX7_isPupil := goodIn_r _ [7, 8, 9, 10, 11, 6, 12, 26, 27, 28, 29, 30, 31, 32, 33, 34, 35, 36, 37, 38, 39, 40, 41, 42, 43, 44, 45, 46, 47, 48, 49, 50, 51, 52, 53, 54, 55, 56, 57, 58, 59, 60, 61, 62, 63, 64, 65, 66, 67, 68, 69, 70, 71, 72] rfl (by decide +kernel)
set_option maxRecDepth 100000 in
theorem gX7_summer_X7_isPupil : GoodIn wsX7_summer (wsV RX7 35 RX7 yX7_isPupil wsX7_isPupil) := goodIn_app (goodIn_of _ (by decide +kernel)) ggX7_summer_X7_isPupil
set_option maxRecDepth 100000 in
theorem ggX7_summer_X7_in : GoodIn wsX7_summer wsX7_in := goodIn_r _ [12] rfl (by decide +kernel)
set_option maxRecDepth 100000 in
theorem gX7_summer_X7_in : GoodIn wsX7_summer (wsV RX7 7 RX7 yX7_in wsX7_in) := goodIn_app (goodIn_of _ (by decide +kernel)) ggX7_summer_X7_in
set_option maxRecDepth 100000 in
theorem ggX7_summer_X7_becomes : GoodIn wsX7_summer wsX7_becomes := goodIn_r _ [16, 1, 17, 2, 18, 19, 20, 6, 21, 26, 27, 28, 29, 30, 31, 32, 33, 34, 35, 36, 37, 38, 39, 40, 41, 42, 43, 44, 45, 46, 47, 48, 49, 50, 51, 52, 53, 54, 55, 56, 57, 58, 59, 60, 61, 62, 63, 64, 65, 66, 67, 68, 69, 70, 71, 72] rfl (by decide +kernel)
set_option maxRecDepth 100000 in
theorem gX7_summer_X7_becomes : GoodIn wsX7_summer (wsV RX7 337 RX7 yX7_becomes wsX7_becomes) := goodIn_app (goodIn_of _ (by decide +kernel)) ggX7_summer_X7_becomes
set_option maxRecDepth 100000 in
theorem ggX7_summer_X7_sumOf : GoodIn wsX7_summer wsX7_sumOf := goodIn_r _ [25, 2, 26, 27, 28, 29, 30, 31, 32, 33, 34, 35, 36, 37, 38, 39, 40, 41, 42, 43, 44, 45, 46, 47, 48, 49, 50, 51, 52, 53, 54, 55, 56, 57, 58, 59, 60, 61, 62, 63, 64, 65, 66, 67, 68, 69, 70, 71, 72] rfl (by decide +kernel)
set_option maxRecDepth 100000 in
theorem gX7_summer_X7_sumOf : GoodIn wsX7_summer (wsV RX7 40 RX7 yX7_sumOf wsX7_sumOf) := goodIn_app (goodIn_of _ (by decide +kernel)) ggX7_summer_X7_sumOf
theorem dX7_summer_0 : decode cX7_summer 0 = .ok (.aload_n 0, 1) := by decide +kernel
theorem dX7_summer_1 : decode cX7_summer 1 = .ok (.iload_n 1, 1) := by decide +kernel
theorem dX7_summer_2 : decode cX7_summer 2 = .ok (.invokevirtual 35, 3) := by decide +kernel
theorem dX7_summer_5 : decode cX7_summer 5 = .ok (.ifCond .eq 14, 3) := by decide +kernel
theorem dX7_summer_8 : decode cX7_summer 8 = .ok (.aload_n 0, 1) := by decide +kernel
theorem dX7_summer_9 : decode cX7_summer 9 = .ok (.iload_n 2, 1) := by decide +kernel
theorem dX7_summer_10 : decode cX7_summer 10 = .ok (.iconst 0, 1) := by decide +kernel
theorem dX7_summer_11 : decode cX7_summer 11 = .ok (.bipush 9, 2) := by decide +kernel
theorem dX7_summer_13 : decode cX7_summer 13 = .ok (.invokevirtual 7, 3) := by decide +kernel
theorem dX7_summer_16 : decode cX7_summer 16 = .ok (.ifCond .ne 6, 3) := by decide +kernel
theorem dX7_summer_19 : decode cX7_summer 19 = .ok (.bipush (-2), 2) := by decide +kernel
theorem dX7_summer_21 : decode cX7_summer 21 = .ok (.ireturn, 1) := by decide +kernel
theorem dX7_summer_22 : decode cX7_summer 22 = .ok (.iconst 0, 1) := by decide +kernel
theorem dX7_summer_23 : decode cX7_summer 23 = .ok (.istore_n 3, 1) := by decide +kernel
theorem dX7_summer_24 : decode cX7_summer 24 = .ok (.iload_n 3, 1) := by decide +kernel
theorem dX7_summer_25 : decode cX7_summer 25 = .ok (.iconst 5, 1) := by decide +kernel
theorem dX7_summer_26 : decode cX7_summer 26 = .ok (.if_icmp .ge 67, 3) := by decide +kernel
theorem dX7_summer_29 : decode cX7_summer 29 = .ok (.aload_n 0, 1) := by decide +kernel
theorem dX7_summer_30 : decode cX7_summer 30 = .ok (.getfield 146, 3) := by decide +kernel
theorem dX7_summer_33 : decode cX7_summer 33 = .ok (.iload_n 3, 1) := by decide +kernel
theorem dX7_summer_34 : decode cX7_summer 34 = .ok (.aload_n 0, 1) := by decide +kernel
theorem dX7_summer_35 : decode cX7_summer 35 = .ok (.getfield 24, 3) := by decide +kernel
theorem dX7_summer_38 : decode cX7_summer 38 = .ok (.iconst 5, 1) := by decide +kernel
theorem dX7_summer_39 : decode cX7_summer 39 = .ok (.iload_n 1, 1) := by decide +kernel
theorem dX7_summer_40 : decode cX7_summer 40 = .ok (.imul, 1) := by decide +kernel
theorem dX7_summer_41 : decode cX7_summer 41 = .ok (.iload_n 3, 1) := by decide +kernel
theorem dX7_summer_42 : decode cX7_summer 42 = .ok (.iadd, 1) := by decide +kernel
theorem dX7_summer_43 : decode cX7_summer 43 = .ok (.iaload, 1) := by decide +kernel
theorem dX7_summer_44 : decode cX7_summer 44 = .ok (.i2l, 1) := by decide +kernel
theorem dX7_summer_45 : decode cX7_summer 45 = .ok (.iload_n 3, 1) := by decide +kernel
theorem dX7_summer_46 : decode cX7_summer 46 = .ok (.ifCond .ne 8, 3) := by decide +kernel
theorem dX7_summer_49 : decode cX7_summer 49 = .ok (.bipush 10, 2) := by decide +kernel
theorem dX7_summer_51 : decode cX7_summer 51 = .ok (.goto 7, 3) := by decide +kernel
theorem dX7_summer_54 : decode cX7_summer 54 = .ok (.bipush 10, 2) := by decide +kernel
theorem dX7_summer_56 : decode cX7_summer 56 = .ok (.iload_n 2, 1) := by decide +kernel
theorem dX7_summer_57 : decode cX7_summer 57 = .ok (.isub, 1) := by decide +kernel
theorem dX7_summer_58 : decode cX7_summer 58 = .ok (.i2l, 1) := by decide +kernel
theorem dX7_summer_59 : decode cX7_summer 59 = .ok (.lmul, 1) := by decide +kernel
theorem dX7_summer_60 : decode cX7_summer 60 = .ok (.iload_n 3, 1) := by decide +kernel
theorem dX7_summer_61 : decode cX7_summer 61 = .ok (.iconst 4, 1) := by decide +kernel
theorem dX7_summer_62 : decode cX7_summer 62 = .ok (.if_icmp .ge 22, 3) := by decide +kernel
theorem dX7_summer_65 : decode cX7_summer 65 = .ok (.aload_n 0, 1) := by decide +kernel
theorem dX7_summer_66 : decode cX7_summer 66 = .ok (.getfield 24, 3) := by decide +kernel
theorem dX7_summer_69 : decode cX7_summer 69 = .ok (.iconst 5, 1) := by decide +kernel
theorem dX7_summer_70 : decode cX7_summer 70 = .ok (.iload_n 1, 1) := by decide +kernel
theorem dX7_summer_71 : decode cX7_summer 71 = .ok (.imul, 1) := by decide +kernel
theorem dX7_summer_72 : decode cX7_summer 72 = .ok (.iload_n 3, 1) := by decide +kernel
theorem dX7_summer_73 : decode cX7_summer 73 = .ok (.iadd, 1) := by decide +kernel
theorem dX7_summer_74 : decode cX7_summer 74 = .ok (.iconst 1, 1) := by decide +kernel
theorem dX7_summer_75 : decode cX7_summer 75 = .ok (.iadd, 1) := by decide +kernel
theorem dX7_summer_76 : decode cX7_summer 76 = .ok (.iaload, 1) := by decide +kernel
theorem dX7_summer_77 : decode cX7_summer 77 = .ok (.i2l, 1) := by decide +kernel
theorem dX7_summer_78 : decode cX7_summer 78 = .ok (.iload_n 2, 1) := by decide +kernel
theorem dX7_summer_79 : decode cX7_summer 79 = .ok (.i2l, 1) := by decide +kernel
theorem dX7_summer_80 : decode cX7_summer 80 = .ok (.lmul, 1) := by decide +kernel
theorem dX7_summer_81 : decode cX7_summer 81 = .ok (.goto 4, 3) := by decide +kernel
theorem dX7_summer_84 : decode cX7_summer 84 = .ok (.lconst 0, 1) := by decide +kernel
theorem dX7_summer_85 : decode cX7_summer 85 = .ok (.ladd, 1) := by decide +kernel
theorem dX7_summer_86 : decode cX7_summer 86 = .ok (.lastore, 1) := by decide +kernel
theorem dX7_summer_87 : decode cX7_summer 87 = .ok (.iinc 3 1, 3) := by decide +kernel
theorem dX7_summer_90 : decode cX7_summer 90 = .ok (.goto (-66), 3) := by decide +kernel
theorem dX7_summer_93 : decode cX7_summer 93 = .ok (.aload_n 0, 1) := by decide +kernel
theorem dX7_summer_94 : decode cX7_summer 94 = .ok (.iload_n 1, 1) := by decide +kernel
theorem dX7_summer_95 : decode cX7_summer 95 = .ok (.invokevirtual 337, 3) := by decide +kernel
theorem dX7_summer_98 : decode cX7_summer 98 = .ok (.ifCond .eq 11, 3) := by decide +kernel
theorem dX7_summer_101 : decode cX7_summer 101 = .ok (.aload_n 0, 1) := by decide +kernel
theorem dX7_summer_102 : decode cX7_summer 102 = .ok (.iload_n 1, 1) := by decide +kernel
theorem dX7_summer_103 : decode cX7_summer 103 = .ok (.invokevirtual 40, 3) := by decide +kernel
theorem dX7_summer_106 : decode cX7_summer 106 = .ok (.goto 5, 3) := by decide +kernel
theorem dX7_summer_109 : decode cX7_summer 109 = .ok (.bipush (-3), 2) := by decide +kernel
theorem dX7_summer_111 : decode cX7_summer 111 = .ok (.ireturn, 1) := by decide +kernel
set_option maxRecDepth 100000 in
theorem ggX7_test_X7_isPupil : GoodIn wsX7_test wsX7_isPupil := goodIn_r _ [9, 10, 11, 12, 13, 8, 14, 98, 99, 100, 101, 102, 103, 104, 105, 106, 107, 108, 109, 110, 111, 112, 113, 114, 115, 116, 117, 118, 119, 120, 121, 122, 123, 124, 125, 126, 127, 128, 129, 130, 131, 132, 133, 134, 135, 136, 137, 138, 139, 140, 141, 142, 143, 144] rfl (by decide +kernel)
set_option maxRecDepth 100000 in
theorem gX7_test_X7_isPupil : GoodIn wsX7_test (wsV RX7 35 RX7 yX7_isPupil wsX7_isPupil) := goodIn_app (goodIn_of _ (by decide +kernel)) ggX7_test_X7_isPupil
set_option maxRecDepth 100000 in
theorem ggX7_test_X7_areMarks : GoodIn wsX7_test wsX7_areMarks := goodIn_r _ [18, 11, 12, 13, 8, 14] rfl (by decide +kernel)
set_option maxRecDepth 100000 in
theorem gX7_test_X7_areMarks : GoodIn wsX7_test (wsV RX7 294 RX7 yX7_areMarks wsX7_areMarks) := goodIn_app (goodIn_of _ (by decide +kernel)) ggX7_test_X7_areMarks
set_option maxRecDepth 100000 in
theorem ggX7_test_X7_goMarks : GoodIn wsX7_test wsX7_goMarks := goodIn_r _ [22, 23, 3, 24, 25, 26, 27, 28, 8, 29, 30, 31, 32, 33, 34, 35, 36, 37, 38, 39, 40, 41, 42, 43, 44, 45, 46, 47, 48, 49, 50, 51, 52, 53, 54, 55, 56, 57, 58, 59, 2, 60, 4, 61, 62, 63, 64, 65, 66, 67, 68, 69, 70, 71, 72, 73, 74, 75, 76, 77, 78, 79, 80, 81, 82, 83, 84, 85, 86, 87, 88, 98, 99, 100, 101, 102, 103, 104, 105, 106, 107, 108, 109, 110, 111, 112, 113, 114, 115, 116, 117, 118, 119, 120, 121, 122, 123, 124, 125, 126, 127, 128, 129, 130, 131, 132, 133, 134, 135, 136, 137, 138, 139, 140, 141, 142, 143, 144] rfl (by decide +kernel)
set_option maxRecDepth 100000 in
theorem gX7_test_X7_goMarks : GoodIn wsX7_test (wsV RX7 299 RX7 yX7_goMarks wsX7_goMarks) := goodIn_app (goodIn_of _ (by decide +kernel)) ggX7_test_X7_goMarks
set_option maxRecDepth 100000 in
theorem ggX7_test_X7_becomes : GoodIn wsX7_test wsX7_becomes := goodIn_r _ [92, 1, 93, 60, 94, 95, 96, 8, 97, 98, 99, 100, 101, 102, 103, 104, 105, 106, 107, 108, 109, 110, 111, 112, 113, 114, 115, 116, 117, 118, 119, 120, 121, 122, 123, 124, 125, 126, 127, 128, 129, 130, 131, 132, 133, 134, 135, 136, 137, 138, 139, 140, 141, 142, 143, 144] rfl (by decide +kernel)
set_option maxRecDepth 100000 in
theorem gX7_test_X7_becomes : GoodIn wsX7_test (wsV RX7 337 RX7 yX7_becomes wsX7_becomes) := goodIn_app (goodIn_of _ (by decide +kernel)) ggX7_test_X7_becomes
theorem dX7_test_0 : decode cX7_test 0 = .ok (.aload_n 0, 1) := by decide +kernel
theorem dX7_test_1 : decode cX7_test 1 = .ok (.iload_n 1, 1) := by decide +kernel
theorem dX7_test_2 : decode cX7_test 2 = .ok (.invokevirtual 35, 3) := by decide +kernel
theorem dX7_test_5 : decode cX7_test 5 = .ok (.ifCond .eq 11, 3) := by decide +kernel
theorem dX7_test_8 : decode cX7_test 8 = .ok (.aload_n 0, 1) := by decide +kernel
theorem dX7_test_9 : decode cX7_test 9 = .ok (.iload_n 2, 1) := by decide +kernel
theorem dX7_test_10 : decode cX7_test 10 = .ok (.invokevirtual 294, 3) := by decide +kernel
theorem dX7_test_13 : decode cX7_test 13 = .ok (.ifCond .ne 6, 3) := by decide +kernel
theorem dX7_test_16 : decode cX7_test 16 = .ok (.bipush (-2), 2) := by decide +kernel
theorem dX7_test_18 : decode cX7_test 18 = .ok (.ireturn, 1) := by decide +kernel
theorem dX7_test_19 : decode cX7_test 19 = .ok (.aload_n 0, 1) := by decide +kernel
theorem dX7_test_20 : decode cX7_test 20 = .ok (.iload_n 1, 1) := by decide +kernel
theorem dX7_test_21 : decode cX7_test 21 = .ok (.iload_n 2, 1) := by decide +kernel
theorem dX7_test_22 : decode cX7_test 22 = .ok (.invokevirtual 299, 3) := by decide +kernel
theorem dX7_test_25 : decode cX7_test 25 = .ok (.iconst 0, 1) := by decide +kernel
theorem dX7_test_26 : decode cX7_test 26 = .ok (.istore_n 3, 1) := by decide +kernel
theorem dX7_test_27 : decode cX7_test 27 = .ok (.iload_n 3, 1) := by decide +kernel
theorem dX7_test_28 : decode cX7_test 28 = .ok (.iconst 5, 1) := by decide +kernel
theorem dX7_test_29 : decode cX7_test 29 = .ok (.if_icmp .ge 28, 3) := by decide +kernel
theorem dX7_test_32 : decode cX7_test 32 = .ok (.aload_n 0, 1) := by decide +kernel
theorem dX7_test_33 : decode cX7_test 33 = .ok (.getfield 146, 3) := by decide +kernel
theorem dX7_test_36 : decode cX7_test 36 = .ok (.iload_n 3, 1) := by decide +kernel
theorem dX7_test_37 : decode cX7_test 37 = .ok (.aload_n 0, 1) := by decide +kernel
theorem dX7_test_38 : decode cX7_test 38 = .ok (.getfield 110, 3) := by decide +kernel
theorem dX7_test_41 : decode cX7_test 41 = .ok (.iconst 5, 1) := by decide +kernel
theorem dX7_test_42 : decode cX7_test 42 = .ok (.iload_n 2, 1) := by decide +kernel
theorem dX7_test_43 : decode cX7_test 43 = .ok (.bipush 100, 2) := by decide +kernel
theorem dX7_test_45 : decode cX7_test 45 = .ok (.idiv, 1) := by decide +kernel
theorem dX7_test_46 : decode cX7_test 46 = .ok (.imul, 1) := by decide +kernel
theorem dX7_test_47 : decode cX7_test 47 = .ok (.iload_n 3, 1) := by decide +kernel
theorem dX7_test_48 : decode cX7_test 48 = .ok (.iadd, 1) := by decide +kernel
theorem dX7_test_49 : decode cX7_test 49 = .ok (.laload, 1) := by decide +kernel
theorem dX7_test_50 : decode cX7_test 50 = .ok (.lastore, 1) := by decide +kernel
theorem dX7_test_51 : decode cX7_test 51 = .ok (.iinc 3 1, 3) := by decide +kernel
theorem dX7_test_54 : decode cX7_test 54 = .ok (.goto (-27), 3) := by decide +kernel
theorem dX7_test_57 : decode cX7_test 57 = .ok (.aload_n 0, 1) := by decide +kernel
theorem dX7_test_58 : decode cX7_test 58 = .ok (.iload_n 1, 1) := by decide +kernel
theorem dX7_test_59 : decode cX7_test 59 = .ok (.invokevirtual 337, 3) := by decide +kernel
theorem dX7_test_62 : decode cX7_test 62 = .ok (.ifCond .ne 6, 3) := by decide +kernel
theorem dX7_test_65 : decode cX7_test 65 = .ok (.bipush (-3), 2) := by decide +kernel
theorem dX7_test_67 : decode cX7_test 67 = .ok (.ireturn, 1) := by decide +kernel
theorem dX7_test_68 : decode cX7_test 68 = .ok (.aload_n 0, 1) := by decide +kernel
theorem dX7_test_69 : decode cX7_test 69 = .ok (.getfield 15, 3) := by decide +kernel
theorem dX7_test_72 : decode cX7_test 72 = .ok (.iload_n 1, 1) := by decide +kernel
theorem dX7_test_73 : decode cX7_test 73 = .ok (.aload_n 0, 1) := by decide +kernel
theorem dX7_test_74 : decode cX7_test 74 = .ok (.getfield 114, 3) := by decide +kernel
theorem dX7_test_77 : decode cX7_test 77 = .ok (.iload_n 2, 1) := by decide +kernel
theorem dX7_test_78 : decode cX7_test 78 = .ok (.bipush 100, 2) := by decide +kernel
theorem dX7_test_80 : decode cX7_test 80 = .ok (.idiv, 1) := by decide +kernel
theorem dX7_test_81 : decode cX7_test 81 = .ok (.iaload, 1) := by decide +kernel
theorem dX7_test_82 : decode cX7_test 82 = .ok (.iastore, 1) := by decide +kernel
theorem dX7_test_83 : decode cX7_test 83 = .ok (.aload_n 0, 1) := by decide +kernel
theorem dX7_test_84 : decode cX7_test 84 = .ok (.getfield 15, 3) := by decide +kernel
theorem dX7_test_87 : decode cX7_test 87 = .ok (.iload_n 1, 1) := by decide +kernel
theorem dX7_test_88 : decode cX7_test 88 = .ok (.iaload, 1) := by decide +kernel
theorem dX7_test_89 : decode cX7_test 89 = .ok (.ireturn, 1) := by decide +kernel
set_option maxRecDepth 100000 in
theorem ggX7_cut_X7_in : GoodIn wsX7_cut wsX7_in := goodIn_r _ [8] rfl (by decide +kernel)
set_option maxRecDepth 100000 in
theorem gX7_cut_X7_in : GoodIn wsX7_cut (wsV RX7 7 RX7 yX7_in wsX7_in) := goodIn_app (goodIn_of _ (by decide +kernel)) ggX7_cut_X7_in
set_option maxRecDepth 100000 in
theorem ggX7_cut_X7_isSheet : GoodIn wsX7_cut wsX7_isSheet := goodIn_r _ [12, 4, 5, 6, 7, 8] rfl (by decide +kernel)
set_option maxRecDepth 100000 in
theorem gX7_cut_X7_isSheet : GoodIn wsX7_cut (wsV RX7 330 RX7 yX7_isSheet wsX7_isSheet) := goodIn_app (goodIn_of _ (by decide +kernel)) ggX7_cut_X7_isSheet
theorem dX7_cut_0 : decode cX7_cut 0 = .ok (.aload_n 0, 1) := by decide +kernel
theorem dX7_cut_1 : decode cX7_cut 1 = .ok (.iload_n 1, 1) := by decide +kernel
theorem dX7_cut_2 : decode cX7_cut 2 = .ok (.iconst 1, 1) := by decide +kernel
theorem dX7_cut_3 : decode cX7_cut 3 = .ok (.bipush 10, 2) := by decide +kernel
theorem dX7_cut_5 : decode cX7_cut 5 = .ok (.invokevirtual 7, 3) := by decide +kernel
theorem dX7_cut_8 : decode cX7_cut 8 = .ok (.ifCond .eq 21, 3) := by decide +kernel
theorem dX7_cut_11 : decode cX7_cut 11 = .ok (.aload_n 0, 1) := by decide +kernel
theorem dX7_cut_12 : decode cX7_cut 12 = .ok (.iload_n 2, 1) := by decide +kernel
theorem dX7_cut_13 : decode cX7_cut 13 = .ok (.invokevirtual 330, 3) := by decide +kernel
theorem dX7_cut_16 : decode cX7_cut 16 = .ok (.ifCond .eq 13, 3) := by decide +kernel
theorem dX7_cut_19 : decode cX7_cut 19 = .ok (.aload_n 0, 1) := by decide +kernel
theorem dX7_cut_20 : decode cX7_cut 20 = .ok (.iload_n 3, 1) := by decide +kernel
theorem dX7_cut_21 : decode cX7_cut 21 = .ok (.iconst 0, 1) := by decide +kernel
theorem dX7_cut_22 : decode cX7_cut 22 = .ok (.iconst 1, 1) := by decide +kernel
theorem dX7_cut_23 : decode cX7_cut 23 = .ok (.invokevirtual 7, 3) := by decide +kernel
theorem dX7_cut_26 : decode cX7_cut 26 = .ok (.ifCond .ne 6, 3) := by decide +kernel
theorem dX7_cut_29 : decode cX7_cut 29 = .ok (.bipush (-2), 2) := by decide +kernel
theorem dX7_cut_31 : decode cX7_cut 31 = .ok (.ireturn, 1) := by decide +kernel
theorem dX7_cut_32 : decode cX7_cut 32 = .ok (.aload_n 0, 1) := by decide +kernel
theorem dX7_cut_33 : decode cX7_cut 33 = .ok (.getfield 165, 3) := by decide +kernel
theorem dX7_cut_36 : decode cX7_cut 36 = .ok (.iload_n 2, 1) := by decide +kernel
theorem dX7_cut_37 : decode cX7_cut 37 = .ok (.iaload, 1) := by decide +kernel
theorem dX7_cut_38 : decode cX7_cut 38 = .ok (.ifCond .ge 6, 3) := by decide +kernel
theorem dX7_cut_41 : decode cX7_cut 41 = .ok (.bipush (-11), 2) := by decide +kernel
theorem dX7_cut_43 : decode cX7_cut 43 = .ok (.ireturn, 1) := by decide +kernel
theorem dX7_cut_44 : decode cX7_cut 44 = .ok (.aload_n 0, 1) := by decide +kernel
theorem dX7_cut_45 : decode cX7_cut 45 = .ok (.getfield 168, 3) := by decide +kernel
theorem dX7_cut_48 : decode cX7_cut 48 = .ok (.iload_n 2, 1) := by decide +kernel
theorem dX7_cut_49 : decode cX7_cut 49 = .ok (.iaload, 1) := by decide +kernel
theorem dX7_cut_50 : decode cX7_cut 50 = .ok (.istore 4, 2) := by decide +kernel
theorem dX7_cut_52 : decode cX7_cut 52 = .ok (.aload_n 0, 1) := by decide +kernel
theorem dX7_cut_53 : decode cX7_cut 53 = .ok (.iload 4, 2) := by decide +kernel
theorem dX7_cut_55 : decode cX7_cut 55 = .ok (.iconst 1, 1) := by decide +kernel
theorem dX7_cut_56 : decode cX7_cut 56 = .ok (.bipush 10, 2) := by decide +kernel
theorem dX7_cut_58 : decode cX7_cut 58 = .ok (.invokevirtual 7, 3) := by decide +kernel
theorem dX7_cut_61 : decode cX7_cut 61 = .ok (.ifCond .ne 6, 3) := by decide +kernel
theorem dX7_cut_64 : decode cX7_cut 64 = .ok (.bipush (-2), 2) := by decide +kernel
theorem dX7_cut_66 : decode cX7_cut 66 = .ok (.ireturn, 1) := by decide +kernel
theorem dX7_cut_67 : decode cX7_cut 67 = .ok (.iconst 0, 1) := by decide +kernel
theorem dX7_cut_68 : decode cX7_cut 68 = .ok (.istore 5, 2) := by decide +kernel
theorem dX7_cut_70 : decode cX7_cut 70 = .ok (.iload 5, 2) := by decide +kernel
theorem dX7_cut_72 : decode cX7_cut 72 = .ok (.iload 4, 2) := by decide +kernel
theorem dX7_cut_74 : decode cX7_cut 74 = .ok (.if_icmp .ge 34, 3) := by decide +kernel
theorem dX7_cut_77 : decode cX7_cut 77 = .ok (.aload_n 0, 1) := by decide +kernel
theorem dX7_cut_78 : decode cX7_cut 78 = .ok (.aload_n 0, 1) := by decide +kernel
theorem dX7_cut_79 : decode cX7_cut 79 = .ok (.getfield 171, 3) := by decide +kernel
theorem dX7_cut_82 : decode cX7_cut 82 = .ok (.bipush 40, 2) := by decide +kernel
theorem dX7_cut_84 : decode cX7_cut 84 = .ok (.iload_n 2, 1) := by decide +kernel
theorem dX7_cut_85 : decode cX7_cut 85 = .ok (.imul, 1) := by decide +kernel
theorem dX7_cut_86 : decode cX7_cut 86 = .ok (.iload 5, 2) := by decide +kernel
theorem dX7_cut_88 : decode cX7_cut 88 = .ok (.iadd, 1) := by decide +kernel
theorem dX7_cut_89 : decode cX7_cut 89 = .ok (.iaload, 1) := by decide +kernel
theorem dX7_cut_90 : decode cX7_cut 90 = .ok (.iconst 0, 1) := by decide +kernel
theorem dX7_cut_91 : decode cX7_cut 91 = .ok (.bipush 99, 2) := by decide +kernel
theorem dX7_cut_93 : decode cX7_cut 93 = .ok (.invokevirtual 7, 3) := by decide +kernel
theorem dX7_cut_96 : decode cX7_cut 96 = .ok (.ifCond .ne 6, 3) := by decide +kernel
theorem dX7_cut_99 : decode cX7_cut 99 = .ok (.bipush (-2), 2) := by decide +kernel
theorem dX7_cut_101 : decode cX7_cut 101 = .ok (.ireturn, 1) := by decide +kernel
theorem dX7_cut_102 : decode cX7_cut 102 = .ok (.iinc 5 1, 3) := by decide +kernel
theorem dX7_cut_105 : decode cX7_cut 105 = .ok (.goto (-35), 3) := by decide +kernel
theorem dX7_cut_108 : decode cX7_cut 108 = .ok (.iload 4, 2) := by decide +kernel
theorem dX7_cut_110 : decode cX7_cut 110 = .ok (.iload_n 1, 1) := by decide +kernel
theorem dX7_cut_111 : decode cX7_cut 111 = .ok (.if_icmp .ge 5, 3) := by decide +kernel
theorem dX7_cut_114 : decode cX7_cut 114 = .ok (.iconst (-1), 1) := by decide +kernel
theorem dX7_cut_115 : decode cX7_cut 115 = .ok (.ireturn, 1) := by decide +kernel
theorem dX7_cut_116 : decode cX7_cut 116 = .ok (.iconst 0, 1) := by decide +kernel
theorem dX7_cut_117 : decode cX7_cut 117 = .ok (.istore 5, 2) := by decide +kernel
theorem dX7_cut_119 : decode cX7_cut 119 = .ok (.iconst (-1), 1) := by decide +kernel
theorem dX7_cut_120 : decode cX7_cut 120 = .ok (.istore 6, 2) := by decide +kernel
theorem dX7_cut_122 : decode cX7_cut 122 = .ok (.iconst 1, 1) := by decide +kernel
theorem dX7_cut_123 : decode cX7_cut 123 = .ok (.iload 4, 2) := by decide +kernel
theorem dX7_cut_125 : decode cX7_cut 125 = .ok (.iconst 1, 1) := by decide +kernel
theorem dX7_cut_126 : decode cX7_cut 126 = .ok (.isub, 1) := by decide +kernel
theorem dX7_cut_127 : decode cX7_cut 127 = .ok (.ishl, 1) := by decide +kernel
theorem dX7_cut_128 : decode cX7_cut 128 = .ok (.istore 7, 2) := by decide +kernel
theorem dX7_cut_130 : decode cX7_cut 130 = .ok (.iload 7, 2) := by decide +kernel
theorem dX7_cut_132 : decode cX7_cut 132 = .ok (.iconst 1, 1) := by decide +kernel
theorem dX7_cut_133 : decode cX7_cut 133 = .ok (.iload 4, 2) := by decide +kernel
theorem dX7_cut_135 : decode cX7_cut 135 = .ok (.ishl, 1) := by decide +kernel
theorem dX7_cut_136 : decode cX7_cut 136 = .ok (.if_icmp .ge 109, 3) := by decide +kernel
theorem dX7_cut_139 : decode cX7_cut 139 = .ok (.iconst 0, 1) := by decide +kernel
theorem dX7_cut_140 : decode cX7_cut 140 = .ok (.istore 8, 2) := by decide +kernel
theorem dX7_cut_142 : decode cX7_cut 142 = .ok (.iconst 0, 1) := by decide +kernel
theorem dX7_cut_143 : decode cX7_cut 143 = .ok (.istore 9, 2) := by decide +kernel
theorem dX7_cut_145 : decode cX7_cut 145 = .ok (.iconst 0, 1) := by decide +kernel
theorem dX7_cut_146 : decode cX7_cut 146 = .ok (.istore 10, 2) := by decide +kernel
theorem dX7_cut_148 : decode cX7_cut 148 = .ok (.iconst 0, 1) := by decide +kernel
theorem dX7_cut_149 : decode cX7_cut 149 = .ok (.istore 11, 2) := by decide +kernel
theorem dX7_cut_151 : decode cX7_cut 151 = .ok (.iload 11, 2) := by decide +kernel
theorem dX7_cut_153 : decode cX7_cut 153 = .ok (.iload 4, 2) := by decide +kernel
theorem dX7_cut_155 : decode cX7_cut 155 = .ok (.if_icmp .ge 55, 3) := by decide +kernel
theorem dX7_cut_158 : decode cX7_cut 158 = .ok (.iload 9, 2) := by decide +kernel
theorem dX7_cut_160 : decode cX7_cut 160 = .ok (.aload_n 0, 1) := by decide +kernel
theorem dX7_cut_161 : decode cX7_cut 161 = .ok (.getfield 171, 3) := by decide +kernel
theorem dX7_cut_164 : decode cX7_cut 164 = .ok (.bipush 40, 2) := by decide +kernel
theorem dX7_cut_166 : decode cX7_cut 166 = .ok (.iload_n 2, 1) := by decide +kernel
theorem dX7_cut_167 : decode cX7_cut 167 = .ok (.imul, 1) := by decide +kernel
theorem dX7_cut_168 : decode cX7_cut 168 = .ok (.iload 11, 2) := by decide +kernel
theorem dX7_cut_170 : decode cX7_cut 170 = .ok (.iadd, 1) := by decide +kernel
theorem dX7_cut_171 : decode cX7_cut 171 = .ok (.iaload, 1) := by decide +kernel
theorem dX7_cut_172 : decode cX7_cut 172 = .ok (.iadd, 1) := by decide +kernel
theorem dX7_cut_173 : decode cX7_cut 173 = .ok (.istore 9, 2) := by decide +kernel
theorem dX7_cut_175 : decode cX7_cut 175 = .ok (.iload 7, 2) := by decide +kernel
theorem dX7_cut_177 : decode cX7_cut 177 = .ok (.iload 11, 2) := by decide +kernel
theorem dX7_cut_179 : decode cX7_cut 179 = .ok (.ishr, 1) := by decide +kernel
theorem dX7_cut_180 : decode cX7_cut 180 = .ok (.iconst 1, 1) := by decide +kernel
theorem dX7_cut_181 : decode cX7_cut 181 = .ok (.iand, 1) := by decide +kernel
theorem dX7_cut_182 : decode cX7_cut 182 = .ok (.ifCond .ne 6, 3) := by decide +kernel
theorem dX7_cut_185 : decode cX7_cut 185 = .ok (.goto 19, 3) := by decide +kernel
theorem dX7_cut_188 : decode cX7_cut 188 = .ok (.iinc 8 1, 3) := by decide +kernel
theorem dX7_cut_191 : decode cX7_cut 191 = .ok (.iload 10, 2) := by decide +kernel
theorem dX7_cut_193 : decode cX7_cut 193 = .ok (.iload 9, 2) := by decide +kernel
theorem dX7_cut_195 : decode cX7_cut 195 = .ok (.iload 9, 2) := by decide +kernel
theorem dX7_cut_197 : decode cX7_cut 197 = .ok (.imul, 1) := by decide +kernel
theorem dX7_cut_198 : decode cX7_cut 198 = .ok (.iadd, 1) := by decide +kernel
theorem dX7_cut_199 : decode cX7_cut 199 = .ok (.istore 10, 2) := by decide +kernel
theorem dX7_cut_201 : decode cX7_cut 201 = .ok (.iconst 0, 1) := by decide +kernel
theorem dX7_cut_202 : decode cX7_cut 202 = .ok (.istore 9, 2) := by decide +kernel
theorem dX7_cut_204 : decode cX7_cut 204 = .ok (.iinc 11 1, 3) := by decide +kernel
theorem dX7_cut_207 : decode cX7_cut 207 = .ok (.goto (-56), 3) := by decide +kernel
theorem dX7_cut_210 : decode cX7_cut 210 = .ok (.iload 8, 2) := by decide +kernel
theorem dX7_cut_212 : decode cX7_cut 212 = .ok (.iload_n 1, 1) := by decide +kernel
theorem dX7_cut_213 : decode cX7_cut 213 = .ok (.if_icmp .ne 26, 3) := by decide +kernel
theorem dX7_cut_216 : decode cX7_cut 216 = .ok (.iload 6, 2) := by decide +kernel
theorem dX7_cut_218 : decode cX7_cut 218 = .ok (.ifCond .lt 13, 3) := by decide +kernel
theorem dX7_cut_221 : decode cX7_cut 221 = .ok (.iload 10, 2) := by decide +kernel
theorem dX7_cut_223 : decode cX7_cut 223 = .ok (.iload 6, 2) := by decide +kernel
theorem dX7_cut_225 : decode cX7_cut 225 = .ok (.if_icmp .lt 6, 3) := by decide +kernel
theorem dX7_cut_228 : decode cX7_cut 228 = .ok (.goto 11, 3) := by decide +kernel
theorem dX7_cut_231 : decode cX7_cut 231 = .ok (.iload 10, 2) := by decide +kernel
theorem dX7_cut_233 : decode cX7_cut 233 = .ok (.istore 6, 2) := by decide +kernel
theorem dX7_cut_235 : decode cX7_cut 235 = .ok (.iload 7, 2) := by decide +kernel
theorem dX7_cut_237 : decode cX7_cut 237 = .ok (.istore 5, 2) := by decide +kernel
theorem dX7_cut_239 : decode cX7_cut 239 = .ok (.iinc 7 1, 3) := by decide +kernel
theorem dX7_cut_242 : decode cX7_cut 242 = .ok (.goto (-112), 3) := by decide +kernel
theorem dX7_cut_245 : decode cX7_cut 245 = .ok (.iload_n 3, 1) := by decide +kernel
theorem dX7_cut_246 : decode cX7_cut 246 = .ok (.ifCond .ne 8, 3) := by decide +kernel
theorem dX7_cut_249 : decode cX7_cut 249 = .ok (.iload 6, 2) := by decide +kernel
theorem dX7_cut_251 : decode cX7_cut 251 = .ok (.goto 5, 3) := by decide +kernel
theorem dX7_cut_254 : decode cX7_cut 254 = .ok (.iload 5, 2) := by decide +kernel
theorem dX7_cut_256 : decode cX7_cut 256 = .ok (.ireturn, 1) := by decide +kernel
theorem dX7_image_0 : decode cX7_image 0 = .ok (.aload_n 0, 1) := by decide +kernel
theorem dX7_image_1 : decode cX7_image 1 = .ok (.iconst 1, 1) := by decide +kernel
theorem dX7_image_2 : decode cX7_image 2 = .ok (.putfield 149, 3) := by decide +kernel
theorem dX7_image_5 : decode cX7_image 5 = .ok (.aload_n 0, 1) := by decide +kernel
theorem dX7_image_6 : decode cX7_image 6 = .ok (.aload_n 0, 1) := by decide +kernel
theorem dX7_image_7 : decode cX7_image 7 = .ok (.getfield 1, 3) := by decide +kernel
theorem dX7_image_10 : decode cX7_image 10 = .ok (.putfield 153, 3) := by decide +kernel
theorem dX7_image_13 : decode cX7_image 13 = .ok (.aload_n 0, 1) := by decide +kernel
theorem dX7_image_14 : decode cX7_image 14 = .ok (.aload_n 0, 1) := by decide +kernel
theorem dX7_image_15 : decode cX7_image 15 = .ok (.getfield 53, 3) := by decide +kernel
theorem dX7_image_18 : decode cX7_image 18 = .ok (.putfield 156, 3) := by decide +kernel
theorem dX7_image_21 : decode cX7_image 21 = .ok (.iconst 0, 1) := by decide +kernel
theorem dX7_image_22 : decode cX7_image 22 = .ok (.istore_n 1, 1) := by decide +kernel
theorem dX7_image_23 : decode cX7_image 23 = .ok (.iload_n 1, 1) := by decide +kernel
theorem dX7_image_24 : decode cX7_image 24 = .ok (.bipush 40, 2) := by decide +kernel
theorem dX7_image_26 : decode cX7_image 26 = .ok (.if_icmp .ge 21, 3) := by decide +kernel
theorem dX7_image_29 : decode cX7_image 29 = .ok (.aload_n 0, 1) := by decide +kernel
theorem dX7_image_30 : decode cX7_image 30 = .ok (.getfield 159, 3) := by decide +kernel
theorem dX7_image_33 : decode cX7_image 33 = .ok (.iload_n 1, 1) := by decide +kernel
theorem dX7_image_34 : decode cX7_image 34 = .ok (.aload_n 0, 1) := by decide +kernel
theorem dX7_image_35 : decode cX7_image 35 = .ok (.getfield 24, 3) := by decide +kernel
theorem dX7_image_38 : decode cX7_image 38 = .ok (.iload_n 1, 1) := by decide +kernel
theorem dX7_image_39 : decode cX7_image 39 = .ok (.iaload, 1) := by decide +kernel
theorem dX7_image_40 : decode cX7_image 40 = .ok (.iastore, 1) := by decide +kernel
theorem dX7_image_41 : decode cX7_image 41 = .ok (.iinc 1 1, 3) := by decide +kernel
theorem dX7_image_44 : decode cX7_image 44 = .ok (.goto (-21), 3) := by decide +kernel
theorem dX7_image_47 : decode cX7_image 47 = .ok (.iconst 0, 1) := by decide +kernel
theorem dX7_image_48 : decode cX7_image 48 = .ok (.istore_n 1, 1) := by decide +kernel
theorem dX7_image_49 : decode cX7_image 49 = .ok (.iload_n 1, 1) := by decide +kernel
theorem dX7_image_50 : decode cX7_image 50 = .ok (.bipush 8, 2) := by decide +kernel
theorem dX7_image_52 : decode cX7_image 52 = .ok (.if_icmp .ge 21, 3) := by decide +kernel
theorem dX7_image_55 : decode cX7_image 55 = .ok (.aload_n 0, 1) := by decide +kernel
theorem dX7_image_56 : decode cX7_image 56 = .ok (.getfield 162, 3) := by decide +kernel
theorem dX7_image_59 : decode cX7_image 59 = .ok (.iload_n 1, 1) := by decide +kernel
theorem dX7_image_60 : decode cX7_image 60 = .ok (.aload_n 0, 1) := by decide +kernel
theorem dX7_image_61 : decode cX7_image 61 = .ok (.getfield 15, 3) := by decide +kernel
theorem dX7_image_64 : decode cX7_image 64 = .ok (.iload_n 1, 1) := by decide +kernel
theorem dX7_image_65 : decode cX7_image 65 = .ok (.iaload, 1) := by decide +kernel
theorem dX7_image_66 : decode cX7_image 66 = .ok (.iastore, 1) := by decide +kernel
theorem dX7_image_67 : decode cX7_image 67 = .ok (.iinc 1 1, 3) := by decide +kernel
theorem dX7_image_70 : decode cX7_image 70 = .ok (.goto (-21), 3) := by decide +kernel
theorem dX7_image_73 : decode cX7_image 73 = .ok (.aload_n 0, 1) := by decide +kernel
theorem dX7_image_74 : decode cX7_image 74 = .ok (.getfield 1, 3) := by decide +kernel
theorem dX7_image_77 : decode cX7_image 77 = .ok (.ireturn, 1) := by decide +kernel
theorem dX7_back_0 : decode cX7_back 0 = .ok (.aload_n 0, 1) := by decide +kernel
theorem dX7_back_1 : decode cX7_back 1 = .ok (.getfield 149, 3) := by decide +kernel
theorem dX7_back_4 : decode cX7_back 4 = .ok (.ifCond .ne 6, 3) := by decide +kernel
theorem dX7_back_7 : decode cX7_back 7 = .ok (.bipush (-3), 2) := by decide +kernel
theorem dX7_back_9 : decode cX7_back 9 = .ok (.ireturn, 1) := by decide +kernel
theorem dX7_back_10 : decode cX7_back 10 = .ok (.aload_n 0, 1) := by decide +kernel
theorem dX7_back_11 : decode cX7_back 11 = .ok (.aload_n 0, 1) := by decide +kernel
theorem dX7_back_12 : decode cX7_back 12 = .ok (.getfield 156, 3) := by decide +kernel
theorem dX7_back_15 : decode cX7_back 15 = .ok (.putfield 53, 3) := by decide +kernel
theorem dX7_back_18 : decode cX7_back 18 = .ok (.iconst 0, 1) := by decide +kernel
theorem dX7_back_19 : decode cX7_back 19 = .ok (.istore_n 1, 1) := by decide +kernel
theorem dX7_back_20 : decode cX7_back 20 = .ok (.iload_n 1, 1) := by decide +kernel
theorem dX7_back_21 : decode cX7_back 21 = .ok (.iconst 5, 1) := by decide +kernel
theorem dX7_back_22 : decode cX7_back 22 = .ok (.aload_n 0, 1) := by decide +kernel
theorem dX7_back_23 : decode cX7_back 23 = .ok (.getfield 153, 3) := by decide +kernel
theorem dX7_back_26 : decode cX7_back 26 = .ok (.imul, 1) := by decide +kernel
theorem dX7_back_27 : decode cX7_back 27 = .ok (.if_icmp .ge 21, 3) := by decide +kernel
theorem dX7_back_30 : decode cX7_back 30 = .ok (.aload_n 0, 1) := by decide +kernel
theorem dX7_back_31 : decode cX7_back 31 = .ok (.getfield 24, 3) := by decide +kernel
theorem dX7_back_34 : decode cX7_back 34 = .ok (.iload_n 1, 1) := by decide +kernel
theorem dX7_back_35 : decode cX7_back 35 = .ok (.aload_n 0, 1) := by decide +kernel
theorem dX7_back_36 : decode cX7_back 36 = .ok (.getfield 159, 3) := by decide +kernel
theorem dX7_back_39 : decode cX7_back 39 = .ok (.iload_n 1, 1) := by decide +kernel
theorem dX7_back_40 : decode cX7_back 40 = .ok (.iaload, 1) := by decide +kernel
theorem dX7_back_41 : decode cX7_back 41 = .ok (.iastore, 1) := by decide +kernel
theorem dX7_back_42 : decode cX7_back 42 = .ok (.iinc 1 1, 3) := by decide +kernel
theorem dX7_back_45 : decode cX7_back 45 = .ok (.goto (-25), 3) := by decide +kernel
theorem dX7_back_48 : decode cX7_back 48 = .ok (.iconst 0, 1) := by decide +kernel
theorem dX7_back_49 : decode cX7_back 49 = .ok (.istore_n 1, 1) := by decide +kernel
theorem dX7_back_50 : decode cX7_back 50 = .ok (.iload_n 1, 1) := by decide +kernel
theorem dX7_back_51 : decode cX7_back 51 = .ok (.aload_n 0, 1) := by decide +kernel
theorem dX7_back_52 : decode cX7_back 52 = .ok (.getfield 153, 3) := by decide +kernel
theorem dX7_back_55 : decode cX7_back 55 = .ok (.if_icmp .ge 21, 3) := by decide +kernel
theorem dX7_back_58 : decode cX7_back 58 = .ok (.aload_n 0, 1) := by decide +kernel
theorem dX7_back_59 : decode cX7_back 59 = .ok (.getfield 15, 3) := by decide +kernel
theorem dX7_back_62 : decode cX7_back 62 = .ok (.iload_n 1, 1) := by decide +kernel
theorem dX7_back_63 : decode cX7_back 63 = .ok (.aload_n 0, 1) := by decide +kernel
theorem dX7_back_64 : decode cX7_back 64 = .ok (.getfield 162, 3) := by decide +kernel
theorem dX7_back_67 : decode cX7_back 67 = .ok (.iload_n 1, 1) := by decide +kernel
theorem dX7_back_68 : decode cX7_back 68 = .ok (.iaload, 1) := by decide +kernel
theorem dX7_back_69 : decode cX7_back 69 = .ok (.iastore, 1) := by decide +kernel
theorem dX7_back_70 : decode cX7_back 70 = .ok (.iinc 1 1, 3) := by decide +kernel
theorem dX7_back_73 : decode cX7_back 73 = .ok (.goto (-23), 3) := by decide +kernel
theorem dX7_back_76 : decode cX7_back 76 = .ok (.aload_n 0, 1) := by decide +kernel
theorem dX7_back_77 : decode cX7_back 77 = .ok (.getfield 1, 3) := by decide +kernel
theorem dX7_back_80 : decode cX7_back 80 = .ok (.ireturn, 1) := by decide +kernel
set_option maxRecDepth 100000 in
theorem ggX7_count_X7_sumOf : GoodIn wsX7_count wsX7_sumOf := goodIn_r _ [10, 11, 12, 13, 14, 15, 16, 17, 18, 19, 20, 21, 22, 23, 24, 25, 26, 27, 28, 29, 30, 31, 32, 33, 34, 35, 36, 37, 38, 39, 40, 41, 42, 43, 44, 45, 46, 47, 48, 49, 50, 51, 52, 53, 54, 55, 56, 57, 58] rfl (by decide +kernel)
set_option maxRecDepth 100000 in
theorem gX7_count_X7_sumOf : GoodIn wsX7_count (wsV RX7 40 RX7 yX7_sumOf wsX7_sumOf) := goodIn_app (goodIn_of _ (by decide +kernel)) ggX7_count_X7_sumOf
theorem dX7_count_0 : decode cX7_count 0 = .ok (.iconst 0, 1) := by decide +kernel
theorem dX7_count_1 : decode cX7_count 1 = .ok (.istore_n 2, 1) := by decide +kernel
theorem dX7_count_2 : decode cX7_count 2 = .ok (.iconst 0, 1) := by decide +kernel
theorem dX7_count_3 : decode cX7_count 3 = .ok (.istore_n 3, 1) := by decide +kernel
theorem dX7_count_4 : decode cX7_count 4 = .ok (.iconst 0, 1) := by decide +kernel
theorem dX7_count_5 : decode cX7_count 5 = .ok (.istore 4, 2) := by decide +kernel
theorem dX7_count_7 : decode cX7_count 7 = .ok (.iload 4, 2) := by decide +kernel
theorem dX7_count_9 : decode cX7_count 9 = .ok (.aload_n 0, 1) := by decide +kernel
theorem dX7_count_10 : decode cX7_count 10 = .ok (.getfield 1, 3) := by decide +kernel
theorem dX7_count_13 : decode cX7_count 13 = .ok (.if_icmp .ge 28, 3) := by decide +kernel
theorem dX7_count_16 : decode cX7_count 16 = .ok (.iload_n 2, 1) := by decide +kernel
theorem dX7_count_17 : decode cX7_count 17 = .ok (.aload_n 0, 1) := by decide +kernel
theorem dX7_count_18 : decode cX7_count 18 = .ok (.iload 4, 2) := by decide +kernel
theorem dX7_count_20 : decode cX7_count 20 = .ok (.invokevirtual 40, 3) := by decide +kernel
theorem dX7_count_23 : decode cX7_count 23 = .ok (.iadd, 1) := by decide +kernel
theorem dX7_count_24 : decode cX7_count 24 = .ok (.istore_n 2, 1) := by decide +kernel
theorem dX7_count_25 : decode cX7_count 25 = .ok (.iload_n 3, 1) := by decide +kernel
theorem dX7_count_26 : decode cX7_count 26 = .ok (.aload_n 0, 1) := by decide +kernel
theorem dX7_count_27 : decode cX7_count 27 = .ok (.getfield 15, 3) := by decide +kernel
theorem dX7_count_30 : decode cX7_count 30 = .ok (.iload 4, 2) := by decide +kernel
theorem dX7_count_32 : decode cX7_count 32 = .ok (.iaload, 1) := by decide +kernel
theorem dX7_count_33 : decode cX7_count 33 = .ok (.iadd, 1) := by decide +kernel
theorem dX7_count_34 : decode cX7_count 34 = .ok (.istore_n 3, 1) := by decide +kernel
theorem dX7_count_35 : decode cX7_count 35 = .ok (.iinc 4 1, 3) := by decide +kernel
theorem dX7_count_38 : decode cX7_count 38 = .ok (.goto (-31), 3) := by decide +kernel
theorem dX7_count_41 : decode cX7_count 41 = .ok (.iload_n 1, 1) := by decide +kernel
theorem dX7_count_42 : decode cX7_count 42 = .ok (.tableswitch 62 0 5 #[38, 43, 48, 53, 58, 60], 38) := by decide +kernel
theorem dX7_count_80 : decode cX7_count 80 = .ok (.aload_n 0, 1) := by decide +kernel
theorem dX7_count_81 : decode cX7_count 81 = .ok (.getfield 1, 3) := by decide +kernel
theorem dX7_count_84 : decode cX7_count 84 = .ok (.ireturn, 1) := by decide +kernel
theorem dX7_count_85 : decode cX7_count 85 = .ok (.aload_n 0, 1) := by decide +kernel
theorem dX7_count_86 : decode cX7_count 86 = .ok (.getfield 50, 3) := by decide +kernel
theorem dX7_count_89 : decode cX7_count 89 = .ok (.ireturn, 1) := by decide +kernel
theorem dX7_count_90 : decode cX7_count 90 = .ok (.aload_n 0, 1) := by decide +kernel
theorem dX7_count_91 : decode cX7_count 91 = .ok (.getfield 56, 3) := by decide +kernel
theorem dX7_count_94 : decode cX7_count 94 = .ok (.ireturn, 1) := by decide +kernel
theorem dX7_count_95 : decode cX7_count 95 = .ok (.aload_n 0, 1) := by decide +kernel
theorem dX7_count_96 : decode cX7_count 96 = .ok (.getfield 53, 3) := by decide +kernel
theorem dX7_count_99 : decode cX7_count 99 = .ok (.ireturn, 1) := by decide +kernel
theorem dX7_count_100 : decode cX7_count 100 = .ok (.iload_n 2, 1) := by decide +kernel
theorem dX7_count_101 : decode cX7_count 101 = .ok (.ireturn, 1) := by decide +kernel
theorem dX7_count_102 : decode cX7_count 102 = .ok (.iload_n 3, 1) := by decide +kernel
theorem dX7_count_103 : decode cX7_count 103 = .ok (.ireturn, 1) := by decide +kernel
theorem dX7_count_104 : decode cX7_count 104 = .ok (.bipush (-2), 2) := by decide +kernel
theorem dX7_count_106 : decode cX7_count 106 = .ok (.ireturn, 1) := by decide +kernel
set_option maxRecDepth 100000 in
theorem ggX7_isSheet_X7_in : GoodIn wsX7_isSheet wsX7_in := goodIn_r _ [5] rfl (by decide +kernel)
set_option maxRecDepth 100000 in
theorem gX7_isSheet_X7_in : GoodIn wsX7_isSheet (wsV RX7 7 RX7 yX7_in wsX7_in) := goodIn_app (goodIn_of _ (by decide +kernel)) ggX7_isSheet_X7_in
theorem dX7_isSheet_0 : decode cX7_isSheet 0 = .ok (.aload_n 0, 1) := by decide +kernel
theorem dX7_isSheet_1 : decode cX7_isSheet 1 = .ok (.iload_n 1, 1) := by decide +kernel
theorem dX7_isSheet_2 : decode cX7_isSheet 2 = .ok (.iconst 0, 1) := by decide +kernel
theorem dX7_isSheet_3 : decode cX7_isSheet 3 = .ok (.iconst 3, 1) := by decide +kernel
theorem dX7_isSheet_4 : decode cX7_isSheet 4 = .ok (.invokevirtual 7, 3) := by decide +kernel
theorem dX7_isSheet_7 : decode cX7_isSheet 7 = .ok (.ireturn, 1) := by decide +kernel
set_option maxRecDepth 100000 in
theorem ggX7_sheet_X7_isSheet : GoodIn wsX7_sheet wsX7_isSheet := goodIn_r _ [8, 9, 10, 11, 7, 12] rfl (by decide +kernel)
set_option maxRecDepth 100000 in
theorem gX7_sheet_X7_isSheet : GoodIn wsX7_sheet (wsV RX7 330 RX7 yX7_isSheet wsX7_isSheet) := goodIn_app (goodIn_of _ (by decide +kernel)) ggX7_sheet_X7_isSheet
set_option maxRecDepth 100000 in
theorem ggX7_sheet_X7_in : GoodIn wsX7_sheet wsX7_in := goodIn_r _ [12] rfl (by decide +kernel)
set_option maxRecDepth 100000 in
theorem gX7_sheet_X7_in : GoodIn wsX7_sheet (wsV RX7 7 RX7 yX7_in wsX7_in) := goodIn_app (goodIn_of _ (by decide +kernel)) ggX7_sheet_X7_in
theorem dX7_sheet_0 : decode cX7_sheet 0 = .ok (.aload_n 0, 1) := by decide +kernel
theorem dX7_sheet_1 : decode cX7_sheet 1 = .ok (.iload_n 1, 1) := by decide +kernel
theorem dX7_sheet_2 : decode cX7_sheet 2 = .ok (.invokevirtual 330, 3) := by decide +kernel
theorem dX7_sheet_5 : decode cX7_sheet 5 = .ok (.ifCond .eq 23, 3) := by decide +kernel
theorem dX7_sheet_8 : decode cX7_sheet 8 = .ok (.aload_n 0, 1) := by decide +kernel
theorem dX7_sheet_9 : decode cX7_sheet 9 = .ok (.iload_n 2, 1) := by decide +kernel
theorem dX7_sheet_10 : decode cX7_sheet 10 = .ok (.iconst (-1), 1) := by decide +kernel
theorem dX7_sheet_11 : decode cX7_sheet 11 = .ok (.iconst 2, 1) := by decide +kernel
theorem dX7_sheet_12 : decode cX7_sheet 12 = .ok (.invokevirtual 7, 3) := by decide +kernel
theorem dX7_sheet_15 : decode cX7_sheet 15 = .ok (.ifCond .eq 13, 3) := by decide +kernel
theorem dX7_sheet_18 : decode cX7_sheet 18 = .ok (.iload_n 2, 1) := by decide +kernel
theorem dX7_sheet_19 : decode cX7_sheet 19 = .ok (.ifCond .lt 12, 3) := by decide +kernel
theorem dX7_sheet_22 : decode cX7_sheet 22 = .ok (.iload_n 3, 1) := by decide +kernel
theorem dX7_sheet_23 : decode cX7_sheet 23 = .ok (.bipush 40, 2) := by decide +kernel
theorem dX7_sheet_25 : decode cX7_sheet 25 = .ok (.if_icmp .le 6, 3) := by decide +kernel
theorem dX7_sheet_28 : decode cX7_sheet 28 = .ok (.bipush (-2), 2) := by decide +kernel
theorem dX7_sheet_30 : decode cX7_sheet 30 = .ok (.ireturn, 1) := by decide +kernel
theorem dX7_sheet_31 : decode cX7_sheet 31 = .ok (.iload_n 2, 1) := by decide +kernel
theorem dX7_sheet_32 : decode cX7_sheet 32 = .ok (.ifCond .lt 10, 3) := by decide +kernel
theorem dX7_sheet_35 : decode cX7_sheet 35 = .ok (.iload_n 3, 1) := by decide +kernel
theorem dX7_sheet_36 : decode cX7_sheet 36 = .ok (.ifCond .ge 6, 3) := by decide +kernel
theorem dX7_sheet_39 : decode cX7_sheet 39 = .ok (.bipush (-14), 2) := by decide +kernel
theorem dX7_sheet_41 : decode cX7_sheet 41 = .ok (.ireturn, 1) := by decide +kernel
theorem dX7_sheet_42 : decode cX7_sheet 42 = .ok (.aload_n 0, 1) := by decide +kernel
theorem dX7_sheet_43 : decode cX7_sheet 43 = .ok (.getfield 165, 3) := by decide +kernel
theorem dX7_sheet_46 : decode cX7_sheet 46 = .ok (.iload_n 1, 1) := by decide +kernel
theorem dX7_sheet_47 : decode cX7_sheet 47 = .ok (.iload_n 2, 1) := by decide +kernel
theorem dX7_sheet_48 : decode cX7_sheet 48 = .ok (.iastore, 1) := by decide +kernel
theorem dX7_sheet_49 : decode cX7_sheet 49 = .ok (.aload_n 0, 1) := by decide +kernel
theorem dX7_sheet_50 : decode cX7_sheet 50 = .ok (.getfield 168, 3) := by decide +kernel
theorem dX7_sheet_53 : decode cX7_sheet 53 = .ok (.iload_n 1, 1) := by decide +kernel
theorem dX7_sheet_54 : decode cX7_sheet 54 = .ok (.iload_n 2, 1) := by decide +kernel
theorem dX7_sheet_55 : decode cX7_sheet 55 = .ok (.ifCond .ge 7, 3) := by decide +kernel
theorem dX7_sheet_58 : decode cX7_sheet 58 = .ok (.iconst 0, 1) := by decide +kernel
theorem dX7_sheet_59 : decode cX7_sheet 59 = .ok (.goto 4, 3) := by decide +kernel
theorem dX7_sheet_62 : decode cX7_sheet 62 = .ok (.iload_n 3, 1) := by decide +kernel
theorem dX7_sheet_63 : decode cX7_sheet 63 = .ok (.iastore, 1) := by decide +kernel
theorem dX7_sheet_64 : decode cX7_sheet 64 = .ok (.iconst 0, 1) := by decide +kernel
theorem dX7_sheet_65 : decode cX7_sheet 65 = .ok (.istore 4, 2) := by decide +kernel
theorem dX7_sheet_67 : decode cX7_sheet 67 = .ok (.iload 4, 2) := by decide +kernel
theorem dX7_sheet_69 : decode cX7_sheet 69 = .ok (.bipush 40, 2) := by decide +kernel
theorem dX7_sheet_71 : decode cX7_sheet 71 = .ok (.if_icmp .ge 22, 3) := by decide +kernel
theorem dX7_sheet_74 : decode cX7_sheet 74 = .ok (.aload_n 0, 1) := by decide +kernel
theorem dX7_sheet_75 : decode cX7_sheet 75 = .ok (.getfield 171, 3) := by decide +kernel
theorem dX7_sheet_78 : decode cX7_sheet 78 = .ok (.bipush 40, 2) := by decide +kernel
theorem dX7_sheet_80 : decode cX7_sheet 80 = .ok (.iload_n 1, 1) := by decide +kernel
theorem dX7_sheet_81 : decode cX7_sheet 81 = .ok (.imul, 1) := by decide +kernel
theorem dX7_sheet_82 : decode cX7_sheet 82 = .ok (.iload 4, 2) := by decide +kernel
theorem dX7_sheet_84 : decode cX7_sheet 84 = .ok (.iadd, 1) := by decide +kernel
theorem dX7_sheet_85 : decode cX7_sheet 85 = .ok (.iconst 0, 1) := by decide +kernel
theorem dX7_sheet_86 : decode cX7_sheet 86 = .ok (.iastore, 1) := by decide +kernel
theorem dX7_sheet_87 : decode cX7_sheet 87 = .ok (.iinc 4 1, 3) := by decide +kernel
theorem dX7_sheet_90 : decode cX7_sheet 90 = .ok (.goto (-23), 3) := by decide +kernel
theorem dX7_sheet_93 : decode cX7_sheet 93 = .ok (.iconst 1, 1) := by decide +kernel
theorem dX7_sheet_94 : decode cX7_sheet 94 = .ok (.ireturn, 1) := by decide +kernel
set_option maxRecDepth 100000 in
theorem ggX7_cell_X7_isSheet : GoodIn wsX7_cell wsX7_isSheet := goodIn_r _ [8, 9, 10, 11, 7, 12] rfl (by decide +kernel)
set_option maxRecDepth 100000 in
theorem gX7_cell_X7_isSheet : GoodIn wsX7_cell (wsV RX7 330 RX7 yX7_isSheet wsX7_isSheet) := goodIn_app (goodIn_of _ (by decide +kernel)) ggX7_cell_X7_isSheet
set_option maxRecDepth 100000 in
theorem ggX7_cell_X7_in : GoodIn wsX7_cell wsX7_in := goodIn_r _ [12] rfl (by decide +kernel)
set_option maxRecDepth 100000 in
theorem gX7_cell_X7_in : GoodIn wsX7_cell (wsV RX7 7 RX7 yX7_in wsX7_in) := goodIn_app (goodIn_of _ (by decide +kernel)) ggX7_cell_X7_in
theorem dX7_cell_0 : decode cX7_cell 0 = .ok (.aload_n 0, 1) := by decide +kernel
theorem dX7_cell_1 : decode cX7_cell 1 = .ok (.iload_n 1, 1) := by decide +kernel
theorem dX7_cell_2 : decode cX7_cell 2 = .ok (.invokevirtual 330, 3) := by decide +kernel
theorem dX7_cell_5 : decode cX7_cell 5 = .ok (.ifCond .ne 6, 3) := by decide +kernel
theorem dX7_cell_8 : decode cX7_cell 8 = .ok (.bipush (-2), 2) := by decide +kernel
theorem dX7_cell_10 : decode cX7_cell 10 = .ok (.ireturn, 1) := by decide +kernel
theorem dX7_cell_11 : decode cX7_cell 11 = .ok (.aload_n 0, 1) := by decide +kernel
theorem dX7_cell_12 : decode cX7_cell 12 = .ok (.getfield 165, 3) := by decide +kernel
theorem dX7_cell_15 : decode cX7_cell 15 = .ok (.iload_n 1, 1) := by decide +kernel
theorem dX7_cell_16 : decode cX7_cell 16 = .ok (.iaload, 1) := by decide +kernel
theorem dX7_cell_17 : decode cX7_cell 17 = .ok (.ifCond .ge 6, 3) := by decide +kernel
theorem dX7_cell_20 : decode cX7_cell 20 = .ok (.bipush (-11), 2) := by decide +kernel
theorem dX7_cell_22 : decode cX7_cell 22 = .ok (.ireturn, 1) := by decide +kernel
theorem dX7_cell_23 : decode cX7_cell 23 = .ok (.aload_n 0, 1) := by decide +kernel
theorem dX7_cell_24 : decode cX7_cell 24 = .ok (.iload_n 2, 1) := by decide +kernel
theorem dX7_cell_25 : decode cX7_cell 25 = .ok (.iconst 0, 1) := by decide +kernel
theorem dX7_cell_26 : decode cX7_cell 26 = .ok (.aload_n 0, 1) := by decide +kernel
theorem dX7_cell_27 : decode cX7_cell 27 = .ok (.getfield 168, 3) := by decide +kernel
theorem dX7_cell_30 : decode cX7_cell 30 = .ok (.iload_n 1, 1) := by decide +kernel
theorem dX7_cell_31 : decode cX7_cell 31 = .ok (.iaload, 1) := by decide +kernel
theorem dX7_cell_32 : decode cX7_cell 32 = .ok (.iconst 1, 1) := by decide +kernel
theorem dX7_cell_33 : decode cX7_cell 33 = .ok (.isub, 1) := by decide +kernel
theorem dX7_cell_34 : decode cX7_cell 34 = .ok (.invokevirtual 7, 3) := by decide +kernel
theorem dX7_cell_37 : decode cX7_cell 37 = .ok (.ifCond .ne 6, 3) := by decide +kernel
theorem dX7_cell_40 : decode cX7_cell 40 = .ok (.bipush (-12), 2) := by decide +kernel
theorem dX7_cell_42 : decode cX7_cell 42 = .ok (.ireturn, 1) := by decide +kernel
theorem dX7_cell_43 : decode cX7_cell 43 = .ok (.aload_n 0, 1) := by decide +kernel
theorem dX7_cell_44 : decode cX7_cell 44 = .ok (.getfield 171, 3) := by decide +kernel
theorem dX7_cell_47 : decode cX7_cell 47 = .ok (.bipush 40, 2) := by decide +kernel
theorem dX7_cell_49 : decode cX7_cell 49 = .ok (.iload_n 1, 1) := by decide +kernel
theorem dX7_cell_50 : decode cX7_cell 50 = .ok (.imul, 1) := by decide +kernel
theorem dX7_cell_51 : decode cX7_cell 51 = .ok (.iload_n 2, 1) := by decide +kernel
theorem dX7_cell_52 : decode cX7_cell 52 = .ok (.iadd, 1) := by decide +kernel
theorem dX7_cell_53 : decode cX7_cell 53 = .ok (.aload_n 0, 1) := by decide +kernel
theorem dX7_cell_54 : decode cX7_cell 54 = .ok (.getfield 165, 3) := by decide +kernel
theorem dX7_cell_57 : decode cX7_cell 57 = .ok (.iload_n 1, 1) := by decide +kernel
theorem dX7_cell_58 : decode cX7_cell 58 = .ok (.iaload, 1) := by decide +kernel
theorem dX7_cell_59 : decode cX7_cell 59 = .ok (.ifCond .ne 8, 3) := by decide +kernel
theorem dX7_cell_62 : decode cX7_cell 62 = .ok (.iload_n 3, 1) := by decide +kernel
theorem dX7_cell_63 : decode cX7_cell 63 = .ok (.i2b, 1) := by decide +kernel
theorem dX7_cell_64 : decode cX7_cell 64 = .ok (.goto 19, 3) := by decide +kernel
theorem dX7_cell_67 : decode cX7_cell 67 = .ok (.aload_n 0, 1) := by decide +kernel
theorem dX7_cell_68 : decode cX7_cell 68 = .ok (.getfield 165, 3) := by decide +kernel
theorem dX7_cell_71 : decode cX7_cell 71 = .ok (.iload_n 1, 1) := by decide +kernel
theorem dX7_cell_72 : decode cX7_cell 72 = .ok (.iaload, 1) := by decide +kernel
theorem dX7_cell_73 : decode cX7_cell 73 = .ok (.iconst 1, 1) := by decide +kernel
theorem dX7_cell_74 : decode cX7_cell 74 = .ok (.if_icmp .ne 8, 3) := by decide +kernel
theorem dX7_cell_77 : decode cX7_cell 77 = .ok (.iload_n 3, 1) := by decide +kernel
theorem dX7_cell_78 : decode cX7_cell 78 = .ok (.i2s, 1) := by decide +kernel
theorem dX7_cell_79 : decode cX7_cell 79 = .ok (.goto 4, 3) := by decide +kernel
theorem dX7_cell_82 : decode cX7_cell 82 = .ok (.iload_n 3, 1) := by decide +kernel
theorem dX7_cell_83 : decode cX7_cell 83 = .ok (.iastore, 1) := by decide +kernel
theorem dX7_cell_84 : decode cX7_cell 84 = .ok (.iconst 1, 1) := by decide +kernel
theorem dX7_cell_85 : decode cX7_cell 85 = .ok (.ireturn, 1) := by decide +kernel
set_option maxRecDepth 100000 in
theorem ggX7_copy_X7_isSheet : GoodIn wsX7_copy wsX7_isSheet := goodIn_r _ [9, 10, 11, 12, 8, 13] rfl (by decide +kernel)
set_option maxRecDepth 100000 in
theorem gX7_copy_X7_isSheet : GoodIn wsX7_copy (wsV RX7 330 RX7 yX7_isSheet wsX7_isSheet) := goodIn_app (goodIn_of _ (by decide +kernel)) ggX7_copy_X7_isSheet
theorem dX7_copy_0 : decode cX7_copy 0 = .ok (.aload_n 0, 1) := by decide +kernel
theorem dX7_copy_1 : decode cX7_copy 1 = .ok (.iload_n 1, 1) := by decide +kernel
theorem dX7_copy_2 : decode cX7_copy 2 = .ok (.invokevirtual 330, 3) := by decide +kernel
theorem dX7_copy_5 : decode cX7_copy 5 = .ok (.ifCond .eq 11, 3) := by decide +kernel
theorem dX7_copy_8 : decode cX7_copy 8 = .ok (.aload_n 0, 1) := by decide +kernel
theorem dX7_copy_9 : decode cX7_copy 9 = .ok (.iload_n 3, 1) := by decide +kernel
theorem dX7_copy_10 : decode cX7_copy 10 = .ok (.invokevirtual 330, 3) := by decide +kernel
theorem dX7_copy_13 : decode cX7_copy 13 = .ok (.ifCond .ne 6, 3) := by decide +kernel
theorem dX7_copy_16 : decode cX7_copy 16 = .ok (.bipush (-2), 2) := by decide +kernel
theorem dX7_copy_18 : decode cX7_copy 18 = .ok (.ireturn, 1) := by decide +kernel
theorem dX7_copy_19 : decode cX7_copy 19 = .ok (.aload_n 0, 1) := by decide +kernel
theorem dX7_copy_20 : decode cX7_copy 20 = .ok (.getfield 165, 3) := by decide +kernel
theorem dX7_copy_23 : decode cX7_copy 23 = .ok (.iload_n 1, 1) := by decide +kernel
theorem dX7_copy_24 : decode cX7_copy 24 = .ok (.iaload, 1) := by decide +kernel
theorem dX7_copy_25 : decode cX7_copy 25 = .ok (.ifCond .lt 12, 3) := by decide +kernel
theorem dX7_copy_28 : decode cX7_copy 28 = .ok (.aload_n 0, 1) := by decide +kernel
theorem dX7_copy_29 : decode cX7_copy 29 = .ok (.getfield 165, 3) := by decide +kernel
theorem dX7_copy_32 : decode cX7_copy 32 = .ok (.iload_n 3, 1) := by decide +kernel
theorem dX7_copy_33 : decode cX7_copy 33 = .ok (.iaload, 1) := by decide +kernel
theorem dX7_copy_34 : decode cX7_copy 34 = .ok (.ifCond .ge 6, 3) := by decide +kernel
theorem dX7_copy_37 : decode cX7_copy 37 = .ok (.bipush (-11), 2) := by decide +kernel
theorem dX7_copy_39 : decode cX7_copy 39 = .ok (.ireturn, 1) := by decide +kernel
theorem dX7_copy_40 : decode cX7_copy 40 = .ok (.aload_n 0, 1) := by decide +kernel
theorem dX7_copy_41 : decode cX7_copy 41 = .ok (.getfield 165, 3) := by decide +kernel
theorem dX7_copy_44 : decode cX7_copy 44 = .ok (.iload_n 1, 1) := by decide +kernel
theorem dX7_copy_45 : decode cX7_copy 45 = .ok (.iaload, 1) := by decide +kernel
theorem dX7_copy_46 : decode cX7_copy 46 = .ok (.aload_n 0, 1) := by decide +kernel
theorem dX7_copy_47 : decode cX7_copy 47 = .ok (.getfield 165, 3) := by decide +kernel
theorem dX7_copy_50 : decode cX7_copy 50 = .ok (.iload_n 3, 1) := by decide +kernel
theorem dX7_copy_51 : decode cX7_copy 51 = .ok (.iaload, 1) := by decide +kernel
theorem dX7_copy_52 : decode cX7_copy 52 = .ok (.if_icmp .eq 6, 3) := by decide +kernel
theorem dX7_copy_55 : decode cX7_copy 55 = .ok (.bipush (-13), 2) := by decide +kernel
theorem dX7_copy_57 : decode cX7_copy 57 = .ok (.ireturn, 1) := by decide +kernel
theorem dX7_copy_58 : decode cX7_copy 58 = .ok (.iload 5, 2) := by decide +kernel
theorem dX7_copy_60 : decode cX7_copy 60 = .ok (.ifCond .lt 39, 3) := by decide +kernel
theorem dX7_copy_63 : decode cX7_copy 63 = .ok (.iload_n 2, 1) := by decide +kernel
theorem dX7_copy_64 : decode cX7_copy 64 = .ok (.ifCond .lt 35, 3) := by decide +kernel
theorem dX7_copy_67 : decode cX7_copy 67 = .ok (.iload 4, 2) := by decide +kernel
theorem dX7_copy_69 : decode cX7_copy 69 = .ok (.ifCond .lt 30, 3) := by decide +kernel
theorem dX7_copy_72 : decode cX7_copy 72 = .ok (.iload_n 2, 1) := by decide +kernel
theorem dX7_copy_73 : decode cX7_copy 73 = .ok (.aload_n 0, 1) := by decide +kernel
theorem dX7_copy_74 : decode cX7_copy 74 = .ok (.getfield 168, 3) := by decide +kernel
theorem dX7_copy_77 : decode cX7_copy 77 = .ok (.iload_n 1, 1) := by decide +kernel
theorem dX7_copy_78 : decode cX7_copy 78 = .ok (.iaload, 1) := by decide +kernel
theorem dX7_copy_79 : decode cX7_copy 79 = .ok (.iload 5, 2) := by decide +kernel
theorem dX7_copy_81 : decode cX7_copy 81 = .ok (.isub, 1) := by decide +kernel
theorem dX7_copy_82 : decode cX7_copy 82 = .ok (.if_icmp .gt 17, 3) := by decide +kernel
theorem dX7_copy_85 : decode cX7_copy 85 = .ok (.iload 4, 2) := by decide +kernel
theorem dX7_copy_87 : decode cX7_copy 87 = .ok (.aload_n 0, 1) := by decide +kernel
theorem dX7_copy_88 : decode cX7_copy 88 = .ok (.getfield 168, 3) := by decide +kernel
theorem dX7_copy_91 : decode cX7_copy 91 = .ok (.iload_n 3, 1) := by decide +kernel
theorem dX7_copy_92 : decode cX7_copy 92 = .ok (.iaload, 1) := by decide +kernel
theorem dX7_copy_93 : decode cX7_copy 93 = .ok (.iload 5, 2) := by decide +kernel
theorem dX7_copy_95 : decode cX7_copy 95 = .ok (.isub, 1) := by decide +kernel
theorem dX7_copy_96 : decode cX7_copy 96 = .ok (.if_icmp .le 6, 3) := by decide +kernel
theorem dX7_copy_99 : decode cX7_copy 99 = .ok (.bipush (-12), 2) := by decide +kernel
theorem dX7_copy_101 : decode cX7_copy 101 = .ok (.ireturn, 1) := by decide +kernel
theorem dX7_copy_102 : decode cX7_copy 102 = .ok (.iconst 0, 1) := by decide +kernel
theorem dX7_copy_103 : decode cX7_copy 103 = .ok (.istore 6, 2) := by decide +kernel
theorem dX7_copy_105 : decode cX7_copy 105 = .ok (.iload 6, 2) := by decide +kernel
theorem dX7_copy_107 : decode cX7_copy 107 = .ok (.iload 5, 2) := by decide +kernel
theorem dX7_copy_109 : decode cX7_copy 109 = .ok (.if_icmp .ge 30, 3) := by decide +kernel
theorem dX7_copy_112 : decode cX7_copy 112 = .ok (.aload_n 0, 1) := by decide +kernel
theorem dX7_copy_113 : decode cX7_copy 113 = .ok (.getfield 174, 3) := by decide +kernel
theorem dX7_copy_116 : decode cX7_copy 116 = .ok (.iload 6, 2) := by decide +kernel
theorem dX7_copy_118 : decode cX7_copy 118 = .ok (.aload_n 0, 1) := by decide +kernel
theorem dX7_copy_119 : decode cX7_copy 119 = .ok (.getfield 171, 3) := by decide +kernel
theorem dX7_copy_122 : decode cX7_copy 122 = .ok (.bipush 40, 2) := by decide +kernel
theorem dX7_copy_124 : decode cX7_copy 124 = .ok (.iload_n 1, 1) := by decide +kernel
theorem dX7_copy_125 : decode cX7_copy 125 = .ok (.imul, 1) := by decide +kernel
theorem dX7_copy_126 : decode cX7_copy 126 = .ok (.iload_n 2, 1) := by decide +kernel
theorem dX7_copy_127 : decode cX7_copy 127 = .ok (.iadd, 1) := by decide +kernel
theorem dX7_copy_128 : decode cX7_copy 128 = .ok (.iload 6, 2) := by decide +kernel
theorem dX7_copy_130 : decode cX7_copy 130 = .ok (.iadd, 1) := by decide +kernel
theorem dX7_copy_131 : decode cX7_copy 131 = .ok (.iaload, 1) := by decide +kernel
theorem dX7_copy_132 : decode cX7_copy 132 = .ok (.iastore, 1) := by decide +kernel
theorem dX7_copy_133 : decode cX7_copy 133 = .ok (.iinc 6 1, 3) := by decide +kernel
theorem dX7_copy_136 : decode cX7_copy 136 = .ok (.goto (-31), 3) := by decide +kernel
theorem dX7_copy_139 : decode cX7_copy 139 = .ok (.iconst 0, 1) := by decide +kernel
theorem dX7_copy_140 : decode cX7_copy 140 = .ok (.istore 6, 2) := by decide +kernel
theorem dX7_copy_142 : decode cX7_copy 142 = .ok (.iload 6, 2) := by decide +kernel
theorem dX7_copy_144 : decode cX7_copy 144 = .ok (.iload 5, 2) := by decide +kernel
theorem dX7_copy_146 : decode cX7_copy 146 = .ok (.if_icmp .ge 31, 3) := by decide +kernel
theorem dX7_copy_149 : decode cX7_copy 149 = .ok (.aload_n 0, 1) := by decide +kernel
theorem dX7_copy_150 : decode cX7_copy 150 = .ok (.getfield 171, 3) := by decide +kernel
theorem dX7_copy_153 : decode cX7_copy 153 = .ok (.bipush 40, 2) := by decide +kernel
theorem dX7_copy_155 : decode cX7_copy 155 = .ok (.iload_n 3, 1) := by decide +kernel
theorem dX7_copy_156 : decode cX7_copy 156 = .ok (.imul, 1) := by decide +kernel
theorem dX7_copy_157 : decode cX7_copy 157 = .ok (.iload 4, 2) := by decide +kernel
theorem dX7_copy_159 : decode cX7_copy 159 = .ok (.iadd, 1) := by decide +kernel
theorem dX7_copy_160 : decode cX7_copy 160 = .ok (.iload 6, 2) := by decide +kernel
theorem dX7_copy_162 : decode cX7_copy 162 = .ok (.iadd, 1) := by decide +kernel
theorem dX7_copy_163 : decode cX7_copy 163 = .ok (.aload_n 0, 1) := by decide +kernel
theorem dX7_copy_164 : decode cX7_copy 164 = .ok (.getfield 174, 3) := by decide +kernel
theorem dX7_copy_167 : decode cX7_copy 167 = .ok (.iload 6, 2) := by decide +kernel
theorem dX7_copy_169 : decode cX7_copy 169 = .ok (.iaload, 1) := by decide +kernel
theorem dX7_copy_170 : decode cX7_copy 170 = .ok (.iastore, 1) := by decide +kernel
theorem dX7_copy_171 : decode cX7_copy 171 = .ok (.iinc 6 1, 3) := by decide +kernel
theorem dX7_copy_174 : decode cX7_copy 174 = .ok (.goto (-32), 3) := by decide +kernel
theorem dX7_copy_177 : decode cX7_copy 177 = .ok (.iload 5, 2) := by decide +kernel
theorem dX7_copy_179 : decode cX7_copy 179 = .ok (.ireturn, 1) := by decide +kernel
set_option maxRecDepth 100000 in
theorem ggX7_pupils_X7_isSheet : GoodIn wsX7_pupils wsX7_isSheet := goodIn_r _ [9, 10, 11, 12, 8, 13] rfl (by decide +kernel)
set_option maxRecDepth 100000 in
theorem gX7_pupils_X7_isSheet : GoodIn wsX7_pupils (wsV RX7 330 RX7 yX7_isSheet wsX7_isSheet) := goodIn_app (goodIn_of _ (by decide +kernel)) ggX7_pupils_X7_isSheet
set_option maxRecDepth 100000 in
theorem ggX7_pupils_X7_in : GoodIn wsX7_pupils wsX7_in := goodIn_r _ [13] rfl (by decide +kernel)
set_option maxRecDepth 100000 in
theorem gX7_pupils_X7_in : GoodIn wsX7_pupils (wsV RX7 7 RX7 yX7_in wsX7_in) := goodIn_app (goodIn_of _ (by decide +kernel)) ggX7_pupils_X7_in
set_option maxRecDepth 100000 in
theorem ggX7_pupils_X7_isNew : GoodIn wsX7_pupils wsX7_isNew := goodIn_r _ [17, 10, 11, 12, 8, 13] rfl (by decide +kernel)
set_option maxRecDepth 100000 in
theorem gX7_pupils_X7_isNew : GoodIn wsX7_pupils (wsV RX7 27 RX7 yX7_isNew wsX7_isNew) := goodIn_app (goodIn_of _ (by decide +kernel)) ggX7_pupils_X7_isNew
set_option maxRecDepth 100000 in
theorem ggX7_pupils_X7_comes : GoodIn wsX7_pupils wsX7_comes := goodIn_r _ [21, 22, 4, 23, 24, 25, 26, 27, 28, 29, 30, 31, 32, 33, 34, 35, 36, 37, 38, 39, 40, 41, 42, 43, 44, 45, 46, 47, 48, 49, 50, 51, 52, 53, 54, 55, 56, 57, 58, 59, 60, 61, 62, 63, 64, 65, 66, 67, 68, 69, 70, 71, 72, 73] rfl (by decide +kernel)
set_option maxRecDepth 100000 in
theorem gX7_pupils_X7_comes : GoodIn wsX7_pupils (wsV RX7 31 RX7 yX7_comes wsX7_comes) := goodIn_app (goodIn_of _ (by decide +kernel)) ggX7_pupils_X7_comes
theorem dX7_pupils_0 : decode cX7_pupils 0 = .ok (.aload_n 0, 1) := by decide +kernel
theorem dX7_pupils_1 : decode cX7_pupils 1 = .ok (.iload_n 1, 1) := by decide +kernel
theorem dX7_pupils_2 : decode cX7_pupils 2 = .ok (.invokevirtual 330, 3) := by decide +kernel
theorem dX7_pupils_5 : decode cX7_pupils 5 = .ok (.ifCond .eq 25, 3) := by decide +kernel
theorem dX7_pupils_8 : decode cX7_pupils 8 = .ok (.aload_n 0, 1) := by decide +kernel
theorem dX7_pupils_9 : decode cX7_pupils 9 = .ok (.iload_n 2, 1) := by decide +kernel
theorem dX7_pupils_10 : decode cX7_pupils 10 = .ok (.iconst 0, 1) := by decide +kernel
theorem dX7_pupils_11 : decode cX7_pupils 11 = .ok (.iconst 2, 1) := by decide +kernel
theorem dX7_pupils_12 : decode cX7_pupils 12 = .ok (.invokevirtual 7, 3) := by decide +kernel
theorem dX7_pupils_15 : decode cX7_pupils 15 = .ok (.ifCond .eq 15, 3) := by decide +kernel
theorem dX7_pupils_18 : decode cX7_pupils 18 = .ok (.aload_n 0, 1) := by decide +kernel
theorem dX7_pupils_19 : decode cX7_pupils 19 = .ok (.iload 4, 2) := by decide +kernel
theorem dX7_pupils_21 : decode cX7_pupils 21 = .ok (.iconst 0, 1) := by decide +kernel
theorem dX7_pupils_22 : decode cX7_pupils 22 = .ok (.bipush 8, 2) := by decide +kernel
theorem dX7_pupils_24 : decode cX7_pupils 24 = .ok (.invokevirtual 7, 3) := by decide +kernel
theorem dX7_pupils_27 : decode cX7_pupils 27 = .ok (.ifCond .ne 6, 3) := by decide +kernel
theorem dX7_pupils_30 : decode cX7_pupils 30 = .ok (.bipush (-2), 2) := by decide +kernel
theorem dX7_pupils_32 : decode cX7_pupils 32 = .ok (.ireturn, 1) := by decide +kernel
theorem dX7_pupils_33 : decode cX7_pupils 33 = .ok (.aload_n 0, 1) := by decide +kernel
theorem dX7_pupils_34 : decode cX7_pupils 34 = .ok (.getfield 165, 3) := by decide +kernel
theorem dX7_pupils_37 : decode cX7_pupils 37 = .ok (.iload_n 1, 1) := by decide +kernel
theorem dX7_pupils_38 : decode cX7_pupils 38 = .ok (.iaload, 1) := by decide +kernel
theorem dX7_pupils_39 : decode cX7_pupils 39 = .ok (.ifCond .ge 6, 3) := by decide +kernel
theorem dX7_pupils_42 : decode cX7_pupils 42 = .ok (.bipush (-11), 2) := by decide +kernel
theorem dX7_pupils_44 : decode cX7_pupils 44 = .ok (.ireturn, 1) := by decide +kernel
theorem dX7_pupils_45 : decode cX7_pupils 45 = .ok (.aload_n 0, 1) := by decide +kernel
theorem dX7_pupils_46 : decode cX7_pupils 46 = .ok (.getfield 165, 3) := by decide +kernel
theorem dX7_pupils_49 : decode cX7_pupils 49 = .ok (.iload_n 1, 1) := by decide +kernel
theorem dX7_pupils_50 : decode cX7_pupils 50 = .ok (.iaload, 1) := by decide +kernel
theorem dX7_pupils_51 : decode cX7_pupils 51 = .ok (.iload_n 2, 1) := by decide +kernel
theorem dX7_pupils_52 : decode cX7_pupils 52 = .ok (.if_icmp .eq 6, 3) := by decide +kernel
theorem dX7_pupils_55 : decode cX7_pupils 55 = .ok (.bipush (-13), 2) := by decide +kernel
theorem dX7_pupils_57 : decode cX7_pupils 57 = .ok (.ireturn, 1) := by decide +kernel
theorem dX7_pupils_58 : decode cX7_pupils 58 = .ok (.iconst 0, 1) := by decide +kernel
theorem dX7_pupils_59 : decode cX7_pupils 59 = .ok (.istore 5, 2) := by decide +kernel
theorem dX7_pupils_61 : decode cX7_pupils 61 = .ok (.iconst 0, 1) := by decide +kernel
theorem dX7_pupils_62 : decode cX7_pupils 62 = .ok (.istore 6, 2) := by decide +kernel
theorem dX7_pupils_64 : decode cX7_pupils 64 = .ok (.iload 6, 2) := by decide +kernel
theorem dX7_pupils_66 : decode cX7_pupils 66 = .ok (.iload 4, 2) := by decide +kernel
theorem dX7_pupils_68 : decode cX7_pupils 68 = .ok (.if_icmp .ge 105, 3) := by decide +kernel
theorem dX7_pupils_71 : decode cX7_pupils 71 = .ok (.iload_n 3, 1) := by decide +kernel
theorem dX7_pupils_72 : decode cX7_pupils 72 = .ok (.ifCond .lt 20, 3) := by decide +kernel
theorem dX7_pupils_75 : decode cX7_pupils 75 = .ok (.iload_n 3, 1) := by decide +kernel
theorem dX7_pupils_76 : decode cX7_pupils 76 = .ok (.aload_n 0, 1) := by decide +kernel
theorem dX7_pupils_77 : decode cX7_pupils 77 = .ok (.getfield 168, 3) := by decide +kernel
theorem dX7_pupils_80 : decode cX7_pupils 80 = .ok (.iload_n 1, 1) := by decide +kernel
theorem dX7_pupils_81 : decode cX7_pupils 81 = .ok (.iaload, 1) := by decide +kernel
theorem dX7_pupils_82 : decode cX7_pupils 82 = .ok (.iconst 2, 1) := by decide +kernel
theorem dX7_pupils_83 : decode cX7_pupils 83 = .ok (.iload 6, 2) := by decide +kernel
theorem dX7_pupils_85 : decode cX7_pupils 85 = .ok (.imul, 1) := by decide +kernel
theorem dX7_pupils_86 : decode cX7_pupils 86 = .ok (.isub, 1) := by decide +kernel
theorem dX7_pupils_87 : decode cX7_pupils 87 = .ok (.iconst 2, 1) := by decide +kernel
theorem dX7_pupils_88 : decode cX7_pupils 88 = .ok (.isub, 1) := by decide +kernel
theorem dX7_pupils_89 : decode cX7_pupils 89 = .ok (.if_icmp .le 6, 3) := by decide +kernel
theorem dX7_pupils_92 : decode cX7_pupils 92 = .ok (.bipush (-12), 2) := by decide +kernel
theorem dX7_pupils_94 : decode cX7_pupils 94 = .ok (.ireturn, 1) := by decide +kernel
theorem dX7_pupils_95 : decode cX7_pupils 95 = .ok (.aload_n 0, 1) := by decide +kernel
theorem dX7_pupils_96 : decode cX7_pupils 96 = .ok (.getfield 171, 3) := by decide +kernel
theorem dX7_pupils_99 : decode cX7_pupils 99 = .ok (.bipush 40, 2) := by decide +kernel
theorem dX7_pupils_101 : decode cX7_pupils 101 = .ok (.iload_n 1, 1) := by decide +kernel
theorem dX7_pupils_102 : decode cX7_pupils 102 = .ok (.imul, 1) := by decide +kernel
theorem dX7_pupils_103 : decode cX7_pupils 103 = .ok (.iload_n 3, 1) := by decide +kernel
theorem dX7_pupils_104 : decode cX7_pupils 104 = .ok (.iadd, 1) := by decide +kernel
theorem dX7_pupils_105 : decode cX7_pupils 105 = .ok (.iconst 2, 1) := by decide +kernel
theorem dX7_pupils_106 : decode cX7_pupils 106 = .ok (.iload 6, 2) := by decide +kernel
theorem dX7_pupils_108 : decode cX7_pupils 108 = .ok (.imul, 1) := by decide +kernel
theorem dX7_pupils_109 : decode cX7_pupils 109 = .ok (.iadd, 1) := by decide +kernel
theorem dX7_pupils_110 : decode cX7_pupils 110 = .ok (.iaload, 1) := by decide +kernel
theorem dX7_pupils_111 : decode cX7_pupils 111 = .ok (.istore 7, 2) := by decide +kernel
theorem dX7_pupils_113 : decode cX7_pupils 113 = .ok (.aload_n 0, 1) := by decide +kernel
theorem dX7_pupils_114 : decode cX7_pupils 114 = .ok (.getfield 171, 3) := by decide +kernel
theorem dX7_pupils_117 : decode cX7_pupils 117 = .ok (.bipush 40, 2) := by decide +kernel
theorem dX7_pupils_119 : decode cX7_pupils 119 = .ok (.iload_n 1, 1) := by decide +kernel
theorem dX7_pupils_120 : decode cX7_pupils 120 = .ok (.imul, 1) := by decide +kernel
theorem dX7_pupils_121 : decode cX7_pupils 121 = .ok (.iload_n 3, 1) := by decide +kernel
theorem dX7_pupils_122 : decode cX7_pupils 122 = .ok (.iadd, 1) := by decide +kernel
theorem dX7_pupils_123 : decode cX7_pupils 123 = .ok (.iconst 2, 1) := by decide +kernel
theorem dX7_pupils_124 : decode cX7_pupils 124 = .ok (.iload 6, 2) := by decide +kernel
theorem dX7_pupils_126 : decode cX7_pupils 126 = .ok (.imul, 1) := by decide +kernel
theorem dX7_pupils_127 : decode cX7_pupils 127 = .ok (.iadd, 1) := by decide +kernel
theorem dX7_pupils_128 : decode cX7_pupils 128 = .ok (.iconst 1, 1) := by decide +kernel
theorem dX7_pupils_129 : decode cX7_pupils 129 = .ok (.iadd, 1) := by decide +kernel
theorem dX7_pupils_130 : decode cX7_pupils 130 = .ok (.iaload, 1) := by decide +kernel
theorem dX7_pupils_131 : decode cX7_pupils 131 = .ok (.istore 8, 2) := by decide +kernel
theorem dX7_pupils_133 : decode cX7_pupils 133 = .ok (.aload_n 0, 1) := by decide +kernel
theorem dX7_pupils_134 : decode cX7_pupils 134 = .ok (.iload 7, 2) := by decide +kernel
theorem dX7_pupils_136 : decode cX7_pupils 136 = .ok (.iload 8, 2) := by decide +kernel
theorem dX7_pupils_138 : decode cX7_pupils 138 = .ok (.invokevirtual 27, 3) := by decide +kernel
theorem dX7_pupils_141 : decode cX7_pupils 141 = .ok (.ifCond .eq 26, 3) := by decide +kernel
theorem dX7_pupils_144 : decode cX7_pupils 144 = .ok (.aload_n 0, 1) := by decide +kernel
theorem dX7_pupils_145 : decode cX7_pupils 145 = .ok (.getfield 1, 3) := by decide +kernel
theorem dX7_pupils_148 : decode cX7_pupils 148 = .ok (.bipush 8, 2) := by decide +kernel
theorem dX7_pupils_150 : decode cX7_pupils 150 = .ok (.if_icmp .ne 6, 3) := by decide +kernel
theorem dX7_pupils_153 : decode cX7_pupils 153 = .ok (.goto 14, 3) := by decide +kernel
theorem dX7_pupils_156 : decode cX7_pupils 156 = .ok (.aload_n 0, 1) := by decide +kernel
theorem dX7_pupils_157 : decode cX7_pupils 157 = .ok (.iload 7, 2) := by decide +kernel
theorem dX7_pupils_159 : decode cX7_pupils 159 = .ok (.iload 8, 2) := by decide +kernel
theorem dX7_pupils_161 : decode cX7_pupils 161 = .ok (.invokevirtual 31, 3) := by decide +kernel
theorem dX7_pupils_164 : decode cX7_pupils 164 = .ok (.iinc 5 1, 3) := by decide +kernel
theorem dX7_pupils_167 : decode cX7_pupils 167 = .ok (.iinc 6 1, 3) := by decide +kernel
theorem dX7_pupils_170 : decode cX7_pupils 170 = .ok (.goto (-106), 3) := by decide +kernel
theorem dX7_pupils_173 : decode cX7_pupils 173 = .ok (.iload 5, 2) := by decide +kernel
theorem dX7_pupils_175 : decode cX7_pupils 175 = .ok (.ireturn, 1) := by decide +kernel
set_option maxRecDepth 100000 in
theorem ggX7_taken_X7_in : GoodIn wsX7_taken wsX7_in := goodIn_r _ [7] rfl (by decide +kernel)
set_option maxRecDepth 100000 in
theorem gX7_taken_X7_in : GoodIn wsX7_taken (wsV RX7 7 RX7 yX7_in wsX7_in) := goodIn_app (goodIn_of _ (by decide +kernel)) ggX7_taken_X7_in
set_option maxRecDepth 100000 in
theorem ggX7_taken_X7_isPupil : GoodIn wsX7_taken wsX7_isPupil := goodIn_r _ [11, 12, 3, 4, 5, 6, 7, 13, 14, 15, 16, 17, 18, 19, 20, 21, 22, 23, 24, 25, 26, 27, 28, 29, 30, 31, 32, 33, 34, 35, 36, 37, 38, 39, 40, 41, 42, 43, 44, 45, 46, 47, 48, 49, 50, 51, 52, 53, 54, 55, 56, 57, 58, 59] rfl (by decide +kernel)
set_option maxRecDepth 100000 in
theorem gX7_taken_X7_isPupil : GoodIn wsX7_taken (wsV RX7 35 RX7 yX7_isPupil wsX7_isPupil) := goodIn_app (goodIn_of _ (by decide +kernel)) ggX7_taken_X7_isPupil
theorem dX7_taken_0 : decode cX7_taken 0 = .ok (.aload_n 0, 1) := by decide +kernel
theorem dX7_taken_1 : decode cX7_taken 1 = .ok (.iload_n 2, 1) := by decide +kernel
theorem dX7_taken_2 : decode cX7_taken 2 = .ok (.iconst 0, 1) := by decide +kernel
theorem dX7_taken_3 : decode cX7_taken 3 = .ok (.iconst 5, 1) := by decide +kernel
theorem dX7_taken_4 : decode cX7_taken 4 = .ok (.invokevirtual 7, 3) := by decide +kernel
theorem dX7_taken_7 : decode cX7_taken 7 = .ok (.ifCond .ne 6, 3) := by decide +kernel
theorem dX7_taken_10 : decode cX7_taken 10 = .ok (.bipush (-2), 2) := by decide +kernel
theorem dX7_taken_12 : decode cX7_taken 12 = .ok (.ireturn, 1) := by decide +kernel
theorem dX7_taken_13 : decode cX7_taken 13 = .ok (.aload_n 0, 1) := by decide +kernel
theorem dX7_taken_14 : decode cX7_taken 14 = .ok (.iload_n 1, 1) := by decide +kernel
theorem dX7_taken_15 : decode cX7_taken 15 = .ok (.invokevirtual 35, 3) := by decide +kernel
theorem dX7_taken_18 : decode cX7_taken 18 = .ok (.ifCond .ne 6, 3) := by decide +kernel
theorem dX7_taken_21 : decode cX7_taken 21 = .ok (.bipush (-11), 2) := by decide +kernel
theorem dX7_taken_23 : decode cX7_taken 23 = .ok (.ireturn, 1) := by decide +kernel
theorem dX7_taken_24 : decode cX7_taken 24 = .ok (.aload_n 0, 1) := by decide +kernel
theorem dX7_taken_25 : decode cX7_taken 25 = .ok (.getfield 11, 3) := by decide +kernel
theorem dX7_taken_28 : decode cX7_taken 28 = .ok (.iload_n 1, 1) := by decide +kernel
theorem dX7_taken_29 : decode cX7_taken 29 = .ok (.iaload, 1) := by decide +kernel
theorem dX7_taken_30 : decode cX7_taken 30 = .ok (.istore_n 3, 1) := by decide +kernel
theorem dX7_taken_31 : decode cX7_taken 31 = .ok (.iload_n 2, 1) := by decide +kernel
theorem dX7_taken_32 : decode cX7_taken 32 = .ok (.ifCond .eq 28, 3) := by decide +kernel
theorem dX7_taken_35 : decode cX7_taken 35 = .ok (.iload_n 3, 1) := by decide +kernel
theorem dX7_taken_36 : decode cX7_taken 36 = .ok (.iload_n 2, 1) := by decide +kernel
theorem dX7_taken_37 : decode cX7_taken 37 = .ok (.if_icmp .eq 23, 3) := by decide +kernel
theorem dX7_taken_40 : decode cX7_taken 40 = .ok (.iload_n 2, 1) := by decide +kernel
theorem dX7_taken_41 : decode cX7_taken 41 = .ok (.iconst 1, 1) := by decide +kernel
theorem dX7_taken_42 : decode cX7_taken 42 = .ok (.if_icmp .ne 8, 3) := by decide +kernel
theorem dX7_taken_45 : decode cX7_taken 45 = .ok (.iload_n 3, 1) := by decide +kernel
theorem dX7_taken_46 : decode cX7_taken 46 = .ok (.iconst 4, 1) := by decide +kernel
theorem dX7_taken_47 : decode cX7_taken 47 = .ok (.if_icmp .eq 13, 3) := by decide +kernel
theorem dX7_taken_50 : decode cX7_taken 50 = .ok (.iload_n 2, 1) := by decide +kernel
theorem dX7_taken_51 : decode cX7_taken 51 = .ok (.iconst 3, 1) := by decide +kernel
theorem dX7_taken_52 : decode cX7_taken 52 = .ok (.if_icmp .ne 17, 3) := by decide +kernel
theorem dX7_taken_55 : decode cX7_taken 55 = .ok (.iload_n 3, 1) := by decide +kernel
theorem dX7_taken_56 : decode cX7_taken 56 = .ok (.iconst 5, 1) := by decide +kernel
theorem dX7_taken_57 : decode cX7_taken 57 = .ok (.if_icmp .ne 12, 3) := by decide +kernel
theorem dX7_taken_60 : decode cX7_taken 60 = .ok (.aload_n 0, 1) := by decide +kernel
theorem dX7_taken_61 : decode cX7_taken 61 = .ok (.getfield 21, 3) := by decide +kernel
theorem dX7_taken_64 : decode cX7_taken 64 = .ok (.iload_n 1, 1) := by decide +kernel
theorem dX7_taken_65 : decode cX7_taken 65 = .ok (.iaload, 1) := by decide +kernel
theorem dX7_taken_66 : decode cX7_taken 66 = .ok (.goto 5, 3) := by decide +kernel
theorem dX7_taken_69 : decode cX7_taken 69 = .ok (.bipush (-13), 2) := by decide +kernel
theorem dX7_taken_71 : decode cX7_taken 71 = .ok (.ireturn, 1) := by decide +kernel
theorem dJ6_bitCount_0f7a4_0 : decode cJ6_bitCount_0f7a4 0 = .ok (.iload_n 0, 1) := by decide +kernel
theorem dJ6_bitCount_0f7a4_1 : decode cJ6_bitCount_0f7a4 1 = .ok (.iload_n 0, 1) := by decide +kernel
theorem dJ6_bitCount_0f7a4_2 : decode cJ6_bitCount_0f7a4 2 = .ok (.iconst 1, 1) := by decide +kernel
theorem dJ6_bitCount_0f7a4_3 : decode cJ6_bitCount_0f7a4 3 = .ok (.iushr, 1) := by decide +kernel
theorem dJ6_bitCount_0f7a4_4 : decode cJ6_bitCount_0f7a4 4 = .ok (.ldc_w 265, 3) := by decide +kernel
theorem dJ6_bitCount_0f7a4_7 : decode cJ6_bitCount_0f7a4 7 = .ok (.iand, 1) := by decide +kernel
theorem dJ6_bitCount_0f7a4_8 : decode cJ6_bitCount_0f7a4 8 = .ok (.isub, 1) := by decide +kernel
theorem dJ6_bitCount_0f7a4_9 : decode cJ6_bitCount_0f7a4 9 = .ok (.istore_n 0, 1) := by decide +kernel
theorem dJ6_bitCount_0f7a4_10 : decode cJ6_bitCount_0f7a4 10 = .ok (.iload_n 0, 1) := by decide +kernel
theorem dJ6_bitCount_0f7a4_11 : decode cJ6_bitCount_0f7a4 11 = .ok (.ldc_w 266, 3) := by decide +kernel
theorem dJ6_bitCount_0f7a4_14 : decode cJ6_bitCount_0f7a4 14 = .ok (.iand, 1) := by decide +kernel
theorem dJ6_bitCount_0f7a4_15 : decode cJ6_bitCount_0f7a4 15 = .ok (.iload_n 0, 1) := by decide +kernel
theorem dJ6_bitCount_0f7a4_16 : decode cJ6_bitCount_0f7a4 16 = .ok (.iconst 2, 1) := by decide +kernel
theorem dJ6_bitCount_0f7a4_17 : decode cJ6_bitCount_0f7a4 17 = .ok (.iushr, 1) := by decide +kernel
theorem dJ6_bitCount_0f7a4_18 : decode cJ6_bitCount_0f7a4 18 = .ok (.ldc_w 266, 3) := by decide +kernel
theorem dJ6_bitCount_0f7a4_21 : decode cJ6_bitCount_0f7a4 21 = .ok (.iand, 1) := by decide +kernel
theorem dJ6_bitCount_0f7a4_22 : decode cJ6_bitCount_0f7a4 22 = .ok (.iadd, 1) := by decide +kernel
theorem dJ6_bitCount_0f7a4_23 : decode cJ6_bitCount_0f7a4 23 = .ok (.istore_n 0, 1) := by decide +kernel
theorem dJ6_bitCount_0f7a4_24 : decode cJ6_bitCount_0f7a4 24 = .ok (.iload_n 0, 1) := by decide +kernel
theorem dJ6_bitCount_0f7a4_25 : decode cJ6_bitCount_0f7a4 25 = .ok (.iload_n 0, 1) := by decide +kernel
theorem dJ6_bitCount_0f7a4_26 : decode cJ6_bitCount_0f7a4 26 = .ok (.iconst 4, 1) := by decide +kernel
theorem dJ6_bitCount_0f7a4_27 : decode cJ6_bitCount_0f7a4 27 = .ok (.iushr, 1) := by decide +kernel
theorem dJ6_bitCount_0f7a4_28 : decode cJ6_bitCount_0f7a4 28 = .ok (.iadd, 1) := by decide +kernel
theorem dJ6_bitCount_0f7a4_29 : decode cJ6_bitCount_0f7a4 29 = .ok (.ldc_w 267, 3) := by decide +kernel
theorem dJ6_bitCount_0f7a4_32 : decode cJ6_bitCount_0f7a4 32 = .ok (.iand, 1) := by decide +kernel
theorem dJ6_bitCount_0f7a4_33 : decode cJ6_bitCount_0f7a4 33 = .ok (.istore_n 0, 1) := by decide +kernel
theorem dJ6_bitCount_0f7a4_34 : decode cJ6_bitCount_0f7a4 34 = .ok (.iload_n 0, 1) := by decide +kernel
theorem dJ6_bitCount_0f7a4_35 : decode cJ6_bitCount_0f7a4 35 = .ok (.iload_n 0, 1) := by decide +kernel
theorem dJ6_bitCount_0f7a4_36 : decode cJ6_bitCount_0f7a4 36 = .ok (.bipush 8, 2) := by decide +kernel
theorem dJ6_bitCount_0f7a4_38 : decode cJ6_bitCount_0f7a4 38 = .ok (.iushr, 1) := by decide +kernel
theorem dJ6_bitCount_0f7a4_39 : decode cJ6_bitCount_0f7a4 39 = .ok (.iadd, 1) := by decide +kernel
theorem dJ6_bitCount_0f7a4_40 : decode cJ6_bitCount_0f7a4 40 = .ok (.istore_n 0, 1) := by decide +kernel
theorem dJ6_bitCount_0f7a4_41 : decode cJ6_bitCount_0f7a4 41 = .ok (.iload_n 0, 1) := by decide +kernel
theorem dJ6_bitCount_0f7a4_42 : decode cJ6_bitCount_0f7a4 42 = .ok (.iload_n 0, 1) := by decide +kernel
theorem dJ6_bitCount_0f7a4_43 : decode cJ6_bitCount_0f7a4 43 = .ok (.bipush 16, 2) := by decide +kernel
theorem dJ6_bitCount_0f7a4_45 : decode cJ6_bitCount_0f7a4 45 = .ok (.iushr, 1) := by decide +kernel
theorem dJ6_bitCount_0f7a4_46 : decode cJ6_bitCount_0f7a4 46 = .ok (.iadd, 1) := by decide +kernel
theorem dJ6_bitCount_0f7a4_47 : decode cJ6_bitCount_0f7a4 47 = .ok (.istore_n 0, 1) := by decide +kernel
theorem dJ6_bitCount_0f7a4_48 : decode cJ6_bitCount_0f7a4 48 = .ok (.iload_n 0, 1) := by decide +kernel
theorem dJ6_bitCount_0f7a4_49 : decode cJ6_bitCount_0f7a4 49 = .ok (.bipush 63, 2) := by decide +kernel
theorem dJ6_bitCount_0f7a4_51 : decode cJ6_bitCount_0f7a4 51 = .ok (.iand, 1) := by decide +kernel
theorem dJ6_bitCount_0f7a4_52 : decode cJ6_bitCount_0f7a4 52 = .ok (.ireturn, 1) := by decide +kernel
theorem dJ9_abs_067f4_0 : decode cJ9_abs_067f4 0 = .ok (.lload_n 0, 1) := by decide +kernel
theorem dJ9_abs_067f4_1 : decode cJ9_abs_067f4 1 = .ok (.lconst 0, 1) := by decide +kernel
theorem dJ9_abs_067f4_2 : decode cJ9_abs_067f4 2 = .ok (.lcmp, 1) := by decide +kernel
theorem dJ9_abs_067f4_3 : decode cJ9_abs_067f4 3 = .ok (.ifCond .ge 8, 3) := by decide +kernel
theorem dJ9_abs_067f4_6 : decode cJ9_abs_067f4 6 = .ok (.lload_n 0, 1) := by decide +kernel
theorem dJ9_abs_067f4_7 : decode cJ9_abs_067f4 7 = .ok (.lneg, 1) := by decide +kernel
theorem dJ9_abs_067f4_8 : decode cJ9_abs_067f4 8 = .ok (.goto 4, 3) := by decide +kernel
theorem dJ9_abs_067f4_11 : decode cJ9_abs_067f4 11 = .ok (.lload_n 0, 1) := by decide +kernel
theorem dJ9_abs_067f4_12 : decode cJ9_abs_067f4 12 = .ok (.lreturn, 1) := by decide +kernel
theorem dJ9_max_7cf53_0 : decode cJ9_max_7cf53 0 = .ok (.iload_n 0, 1) := by decide +kernel
theorem dJ9_max_7cf53_1 : decode cJ9_max_7cf53 1 = .ok (.iload_n 1, 1) := by decide +kernel
theorem dJ9_max_7cf53_2 : decode cJ9_max_7cf53 2 = .ok (.if_icmp .lt 7, 3) := by decide +kernel
theorem dJ9_max_7cf53_5 : decode cJ9_max_7cf53 5 = .ok (.iload_n 0, 1) := by decide +kernel
theorem dJ9_max_7cf53_6 : decode cJ9_max_7cf53 6 = .ok (.goto 4, 3) := by decide +kernel
theorem dJ9_max_7cf53_9 : decode cJ9_max_7cf53 9 = .ok (.iload_n 1, 1) := by decide +kernel
theorem dJ9_max_7cf53_10 : decode cJ9_max_7cf53 10 = .ok (.ireturn, 1) := by decide +kernel
theorem dJ9_max_f86c9_0 : decode cJ9_max_f86c9 0 = .ok (.lload_n 0, 1) := by decide +kernel
theorem dJ9_max_f86c9_1 : decode cJ9_max_f86c9 1 = .ok (.lload_n 2, 1) := by decide +kernel
theorem dJ9_max_f86c9_2 : decode cJ9_max_f86c9 2 = .ok (.lcmp, 1) := by decide +kernel
theorem dJ9_max_f86c9_3 : decode cJ9_max_f86c9 3 = .ok (.ifCond .lt 7, 3) := by decide +kernel
theorem dJ9_max_f86c9_6 : decode cJ9_max_f86c9 6 = .ok (.lload_n 0, 1) := by decide +kernel
theorem dJ9_max_f86c9_7 : decode cJ9_max_f86c9 7 = .ok (.goto 4, 3) := by decide +kernel
theorem dJ9_max_f86c9_10 : decode cJ9_max_f86c9 10 = .ok (.lload_n 2, 1) := by decide +kernel
theorem dJ9_max_f86c9_11 : decode cJ9_max_f86c9 11 = .ok (.lreturn, 1) := by decide +kernel
theorem dJ9_min_7cf53_0 : decode cJ9_min_7cf53 0 = .ok (.iload_n 0, 1) := by decide +kernel
theorem dJ9_min_7cf53_1 : decode cJ9_min_7cf53 1 = .ok (.iload_n 1, 1) := by decide +kernel
theorem dJ9_min_7cf53_2 : decode cJ9_min_7cf53 2 = .ok (.if_icmp .gt 7, 3) := by decide +kernel
theorem dJ9_min_7cf53_5 : decode cJ9_min_7cf53 5 = .ok (.iload_n 0, 1) := by decide +kernel
theorem dJ9_min_7cf53_6 : decode cJ9_min_7cf53 6 = .ok (.goto 4, 3) := by decide +kernel
theorem dJ9_min_7cf53_9 : decode cJ9_min_7cf53 9 = .ok (.iload_n 1, 1) := by decide +kernel
theorem dJ9_min_7cf53_10 : decode cJ9_min_7cf53 10 = .ok (.ireturn, 1) := by decide +kernel
set_option maxRecDepth 100000 in
theorem ggJ0_length_8abf5_J0_coder_7d493 : GoodIn wsJ0_length_8abf5 wsJ0_coder_7d493 := goodIn_r _ [6, 7, 8] rfl (by decide +kernel)
set_option maxRecDepth 100000 in
theorem gJ0_length_8abf5_J0_coder_7d493 : GoodIn wsJ0_length_8abf5 (wsV RJ0 335 RJ0 yJ0_coder_7d493 wsJ0_coder_7d493) := goodIn_app (goodIn_of _ (by decide +kernel)) ggJ0_length_8abf5_J0_coder_7d493
theorem dJ0_length_8abf5_0 : decode cJ0_length_8abf5 0 = .ok (.aload_n 0, 1) := by decide +kernel
theorem dJ0_length_8abf5_1 : decode cJ0_length_8abf5 1 = .ok (.getfield 9, 3) := by decide +kernel
theorem dJ0_length_8abf5_4 : decode cJ0_length_8abf5 4 = .ok (.arraylength, 1) := by decide +kernel
theorem dJ0_length_8abf5_5 : decode cJ0_length_8abf5 5 = .ok (.aload_n 0, 1) := by decide +kernel
theorem dJ0_length_8abf5_6 : decode cJ0_length_8abf5 6 = .ok (.invokevirtual 335, 3) := by decide +kernel
theorem dJ0_length_8abf5_9 : decode cJ0_length_8abf5 9 = .ok (.ishr, 1) := by decide +kernel
theorem dJ0_length_8abf5_10 : decode cJ0_length_8abf5 10 = .ok (.ireturn, 1) := by decide +kernel
set_option maxRecDepth 100000 in
theorem ggJ0_charAt_5068e_J0_isLatin1_aae02 : GoodIn wsJ0_charAt_5068e wsJ0_isLatin1_aae02 := goodIn_r _ [6, 7, 8] rfl (by decide +kernel)
set_option maxRecDepth 100000 in
theorem gJ0_charAt_5068e_J0_isLatin1_aae02 : GoodIn wsJ0_charAt_5068e (wsV RJ0 492 RJ0 yJ0_isLatin1_aae02 wsJ0_isLatin1_aae02) := goodIn_app (goodIn_of _ (by decide +kernel)) ggJ0_charAt_5068e_J0_isLatin1_aae02
set_option maxRecDepth 100000 in
theorem ggJ0_charAt_5068e_J1_charAt_3b067 : GoodIn wsJ0_charAt_5068e wsJ1_charAt_3b067 := goodIn_r _ [12, 13, 14, 5, 15, 16, 17, 18, 19, 20] rfl (by decide +kernel)
set_option maxRecDepth 100000 in
theorem gJ0_charAt_5068e_J1_charAt_3b067 : GoodIn wsJ0_charAt_5068e (va_wsS RJ0 495 yJ1_charAt_3b067 wsJ1_charAt_3b067) := goodIn_app (goodIn_of _ (by decide +kernel)) ggJ0_charAt_5068e_J1_charAt_3b067
set_option maxRecDepth 100000 in
theorem ggJ0_charAt_5068e_J2_charAt_3b067 : GoodIn wsJ0_charAt_5068e wsJ2_charAt_3b067 := goodIn_r _ [24, 25, 26, 23, 27, 28, 29, 30, 31, 14, 5, 15, 16, 17, 18, 19, 20, 32, 33, 34, 35, 36, 37] rfl (by decide +kernel)
set_option maxRecDepth 100000 in
theorem gJ0_charAt_5068e_J2_charAt_3b067 : GoodIn wsJ0_charAt_5068e (va_wsS RJ0 498 yJ2_charAt_3b067 wsJ2_charAt_3b067) := goodIn_app (goodIn_of _ (by decide +kernel)) ggJ0_charAt_5068e_J2_charAt_3b067
theorem dJ0_charAt_5068e_0 : decode cJ0_charAt_5068e 0 = .ok (.aload_n 0, 1) := by decide +kernel
theorem dJ0_charAt_5068e_1 : decode cJ0_charAt_5068e 1 = .ok (.invokevirtual 492, 3) := by decide +kernel
theorem dJ0_charAt_5068e_4 : decode cJ0_charAt_5068e 4 = .ok (.ifCond .eq 12, 3) := by decide +kernel
theorem dJ0_charAt_5068e_7 : decode cJ0_charAt_5068e 7 = .ok (.aload_n 0, 1) := by decide +kernel
theorem dJ0_charAt_5068e_8 : decode cJ0_charAt_5068e 8 = .ok (.getfield 9, 3) := by decide +kernel
theorem dJ0_charAt_5068e_11 : decode cJ0_charAt_5068e 11 = .ok (.iload_n 1, 1) := by decide +kernel
theorem dJ0_charAt_5068e_12 : decode cJ0_charAt_5068e 12 = .ok (.invokestatic 495, 3) := by decide +kernel
theorem dJ0_charAt_5068e_15 : decode cJ0_charAt_5068e 15 = .ok (.ireturn, 1) := by decide +kernel
theorem dJ0_charAt_5068e_16 : decode cJ0_charAt_5068e 16 = .ok (.aload_n 0, 1) := by decide +kernel
theorem dJ0_charAt_5068e_17 : decode cJ0_charAt_5068e 17 = .ok (.getfield 9, 3) := by decide +kernel
theorem dJ0_charAt_5068e_20 : decode cJ0_charAt_5068e 20 = .ok (.iload_n 1, 1) := by decide +kernel
theorem dJ0_charAt_5068e_21 : decode cJ0_charAt_5068e 21 = .ok (.invokestatic 498, 3) := by decide +kernel
theorem dJ0_charAt_5068e_24 : decode cJ0_charAt_5068e 24 = .ok (.ireturn, 1) := by decide +kernel
theorem dJ0_coder_7d493_0 : decode cJ0_coder_7d493 0 = .ok (.getstatic 38, 3) := by decide +kernel
theorem dJ0_coder_7d493_3 : decode cJ0_coder_7d493 3 = .ok (.ifCond .eq 10, 3) := by decide +kernel
theorem dJ0_coder_7d493_6 : decode cJ0_coder_7d493 6 = .ok (.aload_n 0, 1) := by decide +kernel
theorem dJ0_coder_7d493_7 : decode cJ0_coder_7d493 7 = .ok (.getfield 15, 3) := by decide +kernel
theorem dJ0_coder_7d493_10 : decode cJ0_coder_7d493 10 = .ok (.goto 4, 3) := by decide +kernel
theorem dJ0_coder_7d493_13 : decode cJ0_coder_7d493 13 = .ok (.iconst 1, 1) := by decide +kernel
theorem dJ0_coder_7d493_14 : decode cJ0_coder_7d493 14 = .ok (.ireturn, 1) := by decide +kernel
theorem dJ0_isLatin1_aae02_0 : decode cJ0_isLatin1_aae02 0 = .ok (.getstatic 38, 3) := by decide +kernel
theorem dJ0_isLatin1_aae02_3 : decode cJ0_isLatin1_aae02 3 = .ok (.ifCond .eq 14, 3) := by decide +kernel
theorem dJ0_isLatin1_aae02_6 : decode cJ0_isLatin1_aae02 6 = .ok (.aload_n 0, 1) := by decide +kernel
theorem dJ0_isLatin1_aae02_7 : decode cJ0_isLatin1_aae02 7 = .ok (.getfield 15, 3) := by decide +kernel
theorem dJ0_isLatin1_aae02_10 : decode cJ0_isLatin1_aae02 10 = .ok (.ifCond .ne 7, 3) := by decide +kernel
theorem dJ0_isLatin1_aae02_13 : decode cJ0_isLatin1_aae02 13 = .ok (.iconst 1, 1) := by decide +kernel
theorem dJ0_isLatin1_aae02_14 : decode cJ0_isLatin1_aae02 14 = .ok (.goto 4, 3) := by decide +kernel
theorem dJ0_isLatin1_aae02_17 : decode cJ0_isLatin1_aae02 17 = .ok (.iconst 0, 1) := by decide +kernel
theorem dJ0_isLatin1_aae02_18 : decode cJ0_isLatin1_aae02 18 = .ok (.ireturn, 1) := by decide +kernel
set_option maxRecDepth 100000 in
theorem ggJ0_checkIndex_df160_J3_checkIndex_8e157 : GoodIn wsJ0_checkIndex_df160 wsJ3_checkIndex_8e157 := goodIn_r _ [5] rfl (by decide +kernel)
set_option maxRecDepth 100000 in
theorem gJ0_checkIndex_df160_J3_checkIndex_8e157 : GoodIn wsJ0_checkIndex_df160 (va_wsS RJ0 1059 yJ3_checkIndex_8e157 wsJ3_checkIndex_8e157) := goodIn_app (goodIn_of _ (by decide +kernel)) ggJ0_checkIndex_df160_J3_checkIndex_8e157
theorem dJ0_checkIndex_df160_0 : decode cJ0_checkIndex_df160 0 = .ok (.iload_n 0, 1) := by decide +kernel
theorem dJ0_checkIndex_df160_1 : decode cJ0_checkIndex_df160 1 = .ok (.iload_n 1, 1) := by decide +kernel
theorem dJ0_checkIndex_df160_2 : decode cJ0_checkIndex_df160 2 = .ok (.getstatic 1053, 3) := by decide +kernel
theorem dJ0_checkIndex_df160_5 : decode cJ0_checkIndex_df160 5 = .ok (.invokestatic 1059, 3) := by decide +kernel
theorem dJ0_checkIndex_df160_8 : decode cJ0_checkIndex_df160 8 = .ok (.pop, 1) := by decide +kernel
theorem dJ0_checkIndex_df160_9 : decode cJ0_checkIndex_df160 9 = .ok (.return_, 1) := by decide +kernel
set_option maxRecDepth 100000 in
theorem ggJ1_charAt_3b067_J0_checkIndex_df160 : GoodIn wsJ1_charAt_3b067 wsJ0_checkIndex_df160 := goodIn_r _ [4, 5, 6, 7, 8, 9] rfl (by decide +kernel)
set_option maxRecDepth 100000 in
theorem gJ1_charAt_3b067_J0_checkIndex_df160 : GoodIn wsJ1_charAt_3b067 (va_wsS RJ1 9 yJ0_checkIndex_df160 wsJ0_checkIndex_df160) := goodIn_app (goodIn_of _ (by decide +kernel)) ggJ1_charAt_3b067_J0_checkIndex_df160
theorem dJ1_charAt_3b067_0 : decode cJ1_charAt_3b067 0 = .ok (.iload_n 1, 1) := by decide +kernel
theorem dJ1_charAt_3b067_1 : decode cJ1_charAt_3b067 1 = .ok (.aload_n 0, 1) := by decide +kernel
theorem dJ1_charAt_3b067_2 : decode cJ1_charAt_3b067 2 = .ok (.arraylength, 1) := by decide +kernel
theorem dJ1_charAt_3b067_3 : decode cJ1_charAt_3b067 3 = .ok (.invokestatic 9, 3) := by decide +kernel
theorem dJ1_charAt_3b067_6 : decode cJ1_charAt_3b067 6 = .ok (.aload_n 0, 1) := by decide +kernel
theorem dJ1_charAt_3b067_7 : decode cJ1_charAt_3b067 7 = .ok (.iload_n 1, 1) := by decide +kernel
theorem dJ1_charAt_3b067_8 : decode cJ1_charAt_3b067 8 = .ok (.baload, 1) := by decide +kernel
theorem dJ1_charAt_3b067_9 : decode cJ1_charAt_3b067 9 = .ok (.sipush 255, 3) := by decide +kernel
theorem dJ1_charAt_3b067_12 : decode cJ1_charAt_3b067 12 = .ok (.iand, 1) := by decide +kernel
theorem dJ1_charAt_3b067_13 : decode cJ1_charAt_3b067 13 = .ok (.i2c, 1) := by decide +kernel
theorem dJ1_charAt_3b067_14 : decode cJ1_charAt_3b067 14 = .ok (.ireturn, 1) := by decide +kernel
set_option maxRecDepth 100000 in
theorem ggJ2_getChar_3b067_J2_length_9d52b : GoodIn wsJ2_getChar_3b067 wsJ2_length_9d52b := goodIn_r _ [7] rfl (by decide +kernel)
set_option maxRecDepth 100000 in
theorem gJ2_getChar_3b067_J2_length_9d52b : GoodIn wsJ2_getChar_3b067 (va_wsS RJ2 48 yJ2_length_9d52b wsJ2_length_9d52b) := goodIn_app (goodIn_of _ (by decide +kernel)) ggJ2_getChar_3b067_J2_length_9d52b
theorem dJ2_getChar_3b067_0 : decode cJ2_getChar_3b067 0 = .ok (.getstatic 44, 3) := by decide +kernel
theorem dJ2_getChar_3b067_3 : decode cJ2_getChar_3b067 3 = .ok (.ifCond .ne 25, 3) := by decide +kernel
theorem dJ2_getChar_3b067_6 : decode cJ2_getChar_3b067 6 = .ok (.iload_n 1, 1) := by decide +kernel
theorem dJ2_getChar_3b067_7 : decode cJ2_getChar_3b067 7 = .ok (.ifCond .lt 11, 3) := by decide +kernel
theorem dJ2_getChar_3b067_10 : decode cJ2_getChar_3b067 10 = .ok (.iload_n 1, 1) := by decide +kernel
theorem dJ2_getChar_3b067_11 : decode cJ2_getChar_3b067 11 = .ok (.aload_n 0, 1) := by decide +kernel
theorem dJ2_getChar_3b067_12 : decode cJ2_getChar_3b067 12 = .ok (.invokestatic 48, 3) := by decide +kernel
theorem dJ2_getChar_3b067_15 : decode cJ2_getChar_3b067 15 = .ok (.if_icmp .lt 13, 3) := by decide +kernel
theorem dJ2_getChar_3b067_18 : decode cJ2_getChar_3b067 18 = .ok (.new 52, 3) := by decide +kernel
theorem dJ2_getChar_3b067_21 : decode cJ2_getChar_3b067 21 = .ok (.dup, 1) := by decide +kernel
theorem dJ2_getChar_3b067_22 : decode cJ2_getChar_3b067 22 = .ok (.ldc 54, 2) := by decide +kernel
theorem dJ2_getChar_3b067_24 : decode cJ2_getChar_3b067 24 = .ok (.invokespecial 56, 3) := by decide +kernel
theorem dJ2_getChar_3b067_27 : decode cJ2_getChar_3b067 27 = .ok (.athrow, 1) := by decide +kernel
theorem dJ2_getChar_3b067_28 : decode cJ2_getChar_3b067 28 = .ok (.iload_n 1, 1) := by decide +kernel
theorem dJ2_getChar_3b067_29 : decode cJ2_getChar_3b067 29 = .ok (.iconst 1, 1) := by decide +kernel
theorem dJ2_getChar_3b067_30 : decode cJ2_getChar_3b067 30 = .ok (.ishl, 1) := by decide +kernel
theorem dJ2_getChar_3b067_31 : decode cJ2_getChar_3b067 31 = .ok (.istore_n 1, 1) := by decide +kernel
theorem dJ2_getChar_3b067_32 : decode cJ2_getChar_3b067 32 = .ok (.aload_n 0, 1) := by decide +kernel
theorem dJ2_getChar_3b067_33 : decode cJ2_getChar_3b067 33 = .ok (.iload_n 1, 1) := by decide +kernel
theorem dJ2_getChar_3b067_34 : decode cJ2_getChar_3b067 34 = .ok (.iinc 1 1, 3) := by decide +kernel
theorem dJ2_getChar_3b067_37 : decode cJ2_getChar_3b067 37 = .ok (.baload, 1) := by decide +kernel
theorem dJ2_getChar_3b067_38 : decode cJ2_getChar_3b067 38 = .ok (.sipush 255, 3) := by decide +kernel
theorem dJ2_getChar_3b067_41 : decode cJ2_getChar_3b067 41 = .ok (.iand, 1) := by decide +kernel
theorem dJ2_getChar_3b067_42 : decode cJ2_getChar_3b067 42 = .ok (.getstatic 59, 3) := by decide +kernel
theorem dJ2_getChar_3b067_45 : decode cJ2_getChar_3b067 45 = .ok (.ishl, 1) := by decide +kernel
theorem dJ2_getChar_3b067_46 : decode cJ2_getChar_3b067 46 = .ok (.aload_n 0, 1) := by decide +kernel
theorem dJ2_getChar_3b067_47 : decode cJ2_getChar_3b067 47 = .ok (.iload_n 1, 1) := by decide +kernel
theorem dJ2_getChar_3b067_48 : decode cJ2_getChar_3b067 48 = .ok (.baload, 1) := by decide +kernel
theorem dJ2_getChar_3b067_49 : decode cJ2_getChar_3b067 49 = .ok (.sipush 255, 3) := by decide +kernel
theorem dJ2_getChar_3b067_52 : decode cJ2_getChar_3b067 52 = .ok (.iand, 1) := by decide +kernel
theorem dJ2_getChar_3b067_53 : decode cJ2_getChar_3b067 53 = .ok (.getstatic 63, 3) := by decide +kernel
theorem dJ2_getChar_3b067_56 : decode cJ2_getChar_3b067 56 = .ok (.ishl, 1) := by decide +kernel
theorem dJ2_getChar_3b067_57 : decode cJ2_getChar_3b067 57 = .ok (.ior, 1) := by decide +kernel
theorem dJ2_getChar_3b067_58 : decode cJ2_getChar_3b067 58 = .ok (.i2c, 1) := by decide +kernel
theorem dJ2_getChar_3b067_59 : decode cJ2_getChar_3b067 59 = .ok (.ireturn, 1) := by decide +kernel
theorem dJ2_length_9d52b_0 : decode cJ2_length_9d52b 0 = .ok (.aload_n 0, 1) := by decide +kernel
theorem dJ2_length_9d52b_1 : decode cJ2_length_9d52b 1 = .ok (.arraylength, 1) := by decide +kernel
theorem dJ2_length_9d52b_2 : decode cJ2_length_9d52b 2 = .ok (.iconst 1, 1) := by decide +kernel
theorem dJ2_length_9d52b_3 : decode cJ2_length_9d52b 3 = .ok (.ishr, 1) := by decide +kernel
theorem dJ2_length_9d52b_4 : decode cJ2_length_9d52b 4 = .ok (.ireturn, 1) := by decide +kernel
set_option maxRecDepth 100000 in
theorem ggJ2_charAt_3b067_J2_checkIndex_2214a : GoodIn wsJ2_charAt_3b067 wsJ2_checkIndex_2214a := goodIn_r _ [4, 5, 6, 3, 7, 8, 9, 10, 11, 12, 13, 14, 15, 16] rfl (by decide +kernel)
set_option maxRecDepth 100000 in
theorem gJ2_charAt_3b067_J2_checkIndex_2214a : GoodIn wsJ2_charAt_3b067 (va_wsS RJ2 67 yJ2_checkIndex_2214a wsJ2_checkIndex_2214a) := goodIn_app (goodIn_of _ (by decide +kernel)) ggJ2_charAt_3b067_J2_checkIndex_2214a
set_option maxRecDepth 100000 in
theorem ggJ2_charAt_3b067_J2_getChar_3b067 : GoodIn wsJ2_charAt_3b067 wsJ2_getChar_3b067 := goodIn_r _ [19, 20, 21, 22, 5, 6, 3, 7] rfl (by decide +kernel)
set_option maxRecDepth 100000 in
theorem gJ2_charAt_3b067_J2_getChar_3b067 : GoodIn wsJ2_charAt_3b067 (va_wsS RJ2 71 yJ2_getChar_3b067 wsJ2_getChar_3b067) := goodIn_app (goodIn_of _ (by decide +kernel)) ggJ2_charAt_3b067_J2_getChar_3b067
theorem dJ2_charAt_3b067_0 : decode cJ2_charAt_3b067 0 = .ok (.iload_n 1, 1) := by decide +kernel
theorem dJ2_charAt_3b067_1 : decode cJ2_charAt_3b067 1 = .ok (.aload_n 0, 1) := by decide +kernel
theorem dJ2_charAt_3b067_2 : decode cJ2_charAt_3b067 2 = .ok (.invokestatic 67, 3) := by decide +kernel
theorem dJ2_charAt_3b067_5 : decode cJ2_charAt_3b067 5 = .ok (.aload_n 0, 1) := by decide +kernel
theorem dJ2_charAt_3b067_6 : decode cJ2_charAt_3b067 6 = .ok (.iload_n 1, 1) := by decide +kernel
theorem dJ2_charAt_3b067_7 : decode cJ2_charAt_3b067 7 = .ok (.invokestatic 71, 3) := by decide +kernel
theorem dJ2_charAt_3b067_10 : decode cJ2_charAt_3b067 10 = .ok (.ireturn, 1) := by decide +kernel
set_option maxRecDepth 100000 in
theorem ggJ2_checkIndex_2214a_J2_length_9d52b : GoodIn wsJ2_checkIndex_2214a wsJ2_length_9d52b := goodIn_r _ [4] rfl (by decide +kernel)
set_option maxRecDepth 100000 in
theorem gJ2_checkIndex_2214a_J2_length_9d52b : GoodIn wsJ2_checkIndex_2214a (va_wsS RJ2 48 yJ2_length_9d52b wsJ2_length_9d52b) := goodIn_app (goodIn_of _ (by decide +kernel)) ggJ2_checkIndex_2214a_J2_length_9d52b
set_option maxRecDepth 100000 in
theorem ggJ2_checkIndex_2214a_J0_checkIndex_df160 : GoodIn wsJ2_checkIndex_2214a wsJ0_checkIndex_df160 := goodIn_r _ [8, 9, 10, 11, 12, 13] rfl (by decide +kernel)
set_option maxRecDepth 100000 in
theorem gJ2_checkIndex_2214a_J0_checkIndex_df160 : GoodIn wsJ2_checkIndex_2214a (va_wsS RJ2 414 yJ0_checkIndex_df160 wsJ0_checkIndex_df160) := goodIn_app (goodIn_of _ (by decide +kernel)) ggJ2_checkIndex_2214a_J0_checkIndex_df160
theorem dJ2_checkIndex_2214a_0 : decode cJ2_checkIndex_2214a 0 = .ok (.iload_n 0, 1) := by decide +kernel
theorem dJ2_checkIndex_2214a_1 : decode cJ2_checkIndex_2214a 1 = .ok (.aload_n 1, 1) := by decide +kernel
theorem dJ2_checkIndex_2214a_2 : decode cJ2_checkIndex_2214a 2 = .ok (.invokestatic 48, 3) := by decide +kernel
theorem dJ2_checkIndex_2214a_5 : decode cJ2_checkIndex_2214a 5 = .ok (.invokestatic 414, 3) := by decide +kernel
theorem dJ2_checkIndex_2214a_8 : decode cJ2_checkIndex_2214a 8 = .ok (.return_, 1) := by decide +kernel
theorem dJ7_fill_53178_0 : decode cJ7_fill_53178 0 = .ok (.iconst 0, 1) := by decide +kernel
theorem dJ7_fill_53178_1 : decode cJ7_fill_53178 1 = .ok (.istore_n 2, 1) := by decide +kernel
theorem dJ7_fill_53178_2 : decode cJ7_fill_53178 2 = .ok (.aload_n 0, 1) := by decide +kernel
theorem dJ7_fill_53178_3 : decode cJ7_fill_53178 3 = .ok (.arraylength, 1) := by decide +kernel
theorem dJ7_fill_53178_4 : decode cJ7_fill_53178 4 = .ok (.istore_n 3, 1) := by decide +kernel
theorem dJ7_fill_53178_5 : decode cJ7_fill_53178 5 = .ok (.iload_n 2, 1) := by decide +kernel
theorem dJ7_fill_53178_6 : decode cJ7_fill_53178 6 = .ok (.iload_n 3, 1) := by decide +kernel
theorem dJ7_fill_53178_7 : decode cJ7_fill_53178 7 = .ok (.if_icmp .ge 13, 3) := by decide +kernel
theorem dJ7_fill_53178_10 : decode cJ7_fill_53178 10 = .ok (.aload_n 0, 1) := by decide +kernel
theorem dJ7_fill_53178_11 : decode cJ7_fill_53178 11 = .ok (.iload_n 2, 1) := by decide +kernel
theorem dJ7_fill_53178_12 : decode cJ7_fill_53178 12 = .ok (.iload_n 1, 1) := by decide +kernel
theorem dJ7_fill_53178_13 : decode cJ7_fill_53178 13 = .ok (.iastore, 1) := by decide +kernel
theorem dJ7_fill_53178_14 : decode cJ7_fill_53178 14 = .ok (.iinc 2 1, 3) := by decide +kernel
theorem dJ7_fill_53178_17 : decode cJ7_fill_53178 17 = .ok (.goto (-12), 3) := by decide +kernel
theorem dJ7_fill_53178_20 : decode cJ7_fill_53178 20 = .ok (.return_, 1) := by decide +kernel
theorem dJ7_fill_031fb_0 : decode cJ7_fill_031fb 0 = .ok (.iconst 0, 1) := by decide +kernel
theorem dJ7_fill_031fb_1 : decode cJ7_fill_031fb 1 = .ok (.istore_n 2, 1) := by decide +kernel
theorem dJ7_fill_031fb_2 : decode cJ7_fill_031fb 2 = .ok (.aload_n 0, 1) := by decide +kernel
theorem dJ7_fill_031fb_3 : decode cJ7_fill_031fb 3 = .ok (.arraylength, 1) := by decide +kernel
theorem dJ7_fill_031fb_4 : decode cJ7_fill_031fb 4 = .ok (.istore_n 3, 1) := by decide +kernel
theorem dJ7_fill_031fb_5 : decode cJ7_fill_031fb 5 = .ok (.iload_n 2, 1) := by decide +kernel
theorem dJ7_fill_031fb_6 : decode cJ7_fill_031fb 6 = .ok (.iload_n 3, 1) := by decide +kernel
theorem dJ7_fill_031fb_7 : decode cJ7_fill_031fb 7 = .ok (.if_icmp .ge 13, 3) := by decide +kernel
theorem dJ7_fill_031fb_10 : decode cJ7_fill_031fb 10 = .ok (.aload_n 0, 1) := by decide +kernel
theorem dJ7_fill_031fb_11 : decode cJ7_fill_031fb 11 = .ok (.iload_n 2, 1) := by decide +kernel
theorem dJ7_fill_031fb_12 : decode cJ7_fill_031fb 12 = .ok (.iload_n 1, 1) := by decide +kernel
theorem dJ7_fill_031fb_13 : decode cJ7_fill_031fb 13 = .ok (.bastore, 1) := by decide +kernel
theorem dJ7_fill_031fb_14 : decode cJ7_fill_031fb 14 = .ok (.iinc 2 1, 3) := by decide +kernel
theorem dJ7_fill_031fb_17 : decode cJ7_fill_031fb 17 = .ok (.goto (-12), 3) := by decide +kernel
theorem dJ7_fill_031fb_20 : decode cJ7_fill_031fb 20 = .ok (.return_, 1) := by decide +kernel
theorem dJ7_copyOf_59c91_0 : decode cJ7_copyOf_59c91 0 = .ok (.iload_n 1, 1) := by decide +kernel
theorem dJ7_copyOf_59c91_1 : decode cJ7_copyOf_59c91 1 = .ok (.aload_n 0, 1) := by decide +kernel
theorem dJ7_copyOf_59c91_2 : decode cJ7_copyOf_59c91 2 = .ok (.arraylength, 1) := by decide +kernel
theorem dJ7_copyOf_59c91_3 : decode cJ7_copyOf_59c91 3 = .ok (.if_icmp .ne 11, 3) := by decide +kernel
theorem dJ7_copyOf_59c91_6 : decode cJ7_copyOf_59c91 6 = .ok (.aload_n 0, 1) := by decide +kernel
theorem dJ7_copyOf_59c91_7 : decode cJ7_copyOf_59c91 7 = .ok (.invokevirtual 316, 3) := by decide +kernel
theorem dJ7_copyOf_59c91_10 : decode cJ7_copyOf_59c91 10 = .ok (.checkcast 317, 3) := by decide +kernel
theorem dJ7_copyOf_59c91_13 : decode cJ7_copyOf_59c91 13 = .ok (.areturn, 1) := by decide +kernel
theorem dJ7_copyOf_59c91_14 : decode cJ7_copyOf_59c91 14 = .ok (.iload_n 1, 1) := by decide +kernel
theorem dJ7_copyOf_59c91_15 : decode cJ7_copyOf_59c91 15 = .ok (.newarray .int, 2) := by decide +kernel
theorem dJ7_copyOf_59c91_17 : decode cJ7_copyOf_59c91 17 = .ok (.astore_n 2, 1) := by decide +kernel
theorem dJ7_copyOf_59c91_18 : decode cJ7_copyOf_59c91 18 = .ok (.aload_n 0, 1) := by decide +kernel
theorem dJ7_copyOf_59c91_19 : decode cJ7_copyOf_59c91 19 = .ok (.iconst 0, 1) := by decide +kernel
theorem dJ7_copyOf_59c91_20 : decode cJ7_copyOf_59c91 20 = .ok (.aload_n 2, 1) := by decide +kernel
theorem dJ7_copyOf_59c91_21 : decode cJ7_copyOf_59c91 21 = .ok (.iconst 0, 1) := by decide +kernel
theorem dJ7_copyOf_59c91_22 : decode cJ7_copyOf_59c91 22 = .ok (.aload_n 0, 1) := by decide +kernel
theorem dJ7_copyOf_59c91_23 : decode cJ7_copyOf_59c91 23 = .ok (.arraylength, 1) := by decide +kernel
theorem dJ7_copyOf_59c91_24 : decode cJ7_copyOf_59c91 24 = .ok (.iload_n 1, 1) := by decide +kernel
theorem dJ7_copyOf_59c91_25 : decode cJ7_copyOf_59c91 25 = .ok (.invokestatic 304, 3) := by decide +kernel
theorem dJ7_copyOf_59c91_28 : decode cJ7_copyOf_59c91 28 = .ok (.invokestatic 150, 3) := by decide +kernel
theorem dJ7_copyOf_59c91_31 : decode cJ7_copyOf_59c91 31 = .ok (.aload_n 2, 1) := by decide +kernel
theorem dJ7_copyOf_59c91_32 : decode cJ7_copyOf_59c91 32 = .ok (.areturn, 1) := by decide +kernel
theorem dJ3_checkIndex_8e157_0 : decode cJ3_checkIndex_8e157 0 = .ok (.iload_n 0, 1) := by decide +kernel
theorem dJ3_checkIndex_8e157_1 : decode cJ3_checkIndex_8e157 1 = .ok (.ifCond .lt 8, 3) := by decide +kernel
theorem dJ3_checkIndex_8e157_4 : decode cJ3_checkIndex_8e157 4 = .ok (.iload_n 0, 1) := by decide +kernel
theorem dJ3_checkIndex_8e157_5 : decode cJ3_checkIndex_8e157 5 = .ok (.iload_n 1, 1) := by decide +kernel
theorem dJ3_checkIndex_8e157_6 : decode cJ3_checkIndex_8e157 6 = .ok (.if_icmp .lt 10, 3) := by decide +kernel
theorem dJ3_checkIndex_8e157_9 : decode cJ3_checkIndex_8e157 9 = .ok (.aload_n 2, 1) := by decide +kernel
theorem dJ3_checkIndex_8e157_10 : decode cJ3_checkIndex_8e157 10 = .ok (.iload_n 0, 1) := by decide +kernel
theorem dJ3_checkIndex_8e157_11 : decode cJ3_checkIndex_8e157 11 = .ok (.iload_n 1, 1) := by decide +kernel
theorem dJ3_checkIndex_8e157_12 : decode cJ3_checkIndex_8e157 12 = .ok (.invokestatic 95, 3) := by decide +kernel
theorem dJ3_checkIndex_8e157_15 : decode cJ3_checkIndex_8e157 15 = .ok (.athrow, 1) := by decide +kernel
theorem dJ3_checkIndex_8e157_16 : decode cJ3_checkIndex_8e157 16 = .ok (.iload_n 0, 1) := by decide +kernel
theorem dJ3_checkIndex_8e157_17 : decode cJ3_checkIndex_8e157 17 = .ok (.ireturn, 1) := by decide +kernel

theorem dX7_takesE_119 : decode cX7_takesE 119 = .ok (.aload_n 0, 1) := by decide +kernel
theorem dX7_takesE_120 : decode cX7_takesE 120 = .ok (.iload_n 3, 1) := by decide +kernel
theorem dX7_takesE_121 : decode cX7_takesE 121 = .ok (.invokevirtual 228, 3) := by decide +kernel
theorem dX7_takesE_124 : decode cX7_takesE 124 = .ok (.goto 7, 3) := by decide +kernel
theorem dX7_takesE_127 : decode cX7_takesE 127 = .ok (.aload_n 0, 1) := by decide +kernel
theorem dX7_takesE_128 : decode cX7_takesE 128 = .ok (.invokevirtual 232, 3) := by decide +kernel
theorem dX7_takesE_131 : decode cX7_takesE 131 = .ok (.istore 7, 2) := by decide +kernel
theorem dX7_takesE_133 : decode cX7_takesE 133 = .ok (.iload 7, 2) := by decide +kernel
theorem dX7_takesE_135 : decode cX7_takesE 135 = .ok (.ifCond .ne 5, 3) := by decide +kernel
theorem dX7_takesE_138 : decode cX7_takesE 138 = .ok (.iconst 0, 1) := by decide +kernel
theorem dX7_takesE_139 : decode cX7_takesE 139 = .ok (.ireturn, 1) := by decide +kernel
theorem dX7_takesE_140 : decode cX7_takesE 140 = .ok (.iload_n 2, 1) := by decide +kernel
theorem dX7_takesE_141 : decode cX7_takesE 141 = .ok (.ifCond .eq 21, 3) := by decide +kernel
theorem dX7_takesE_144 : decode cX7_takesE 144 = .ok (.iload 4, 2) := by decide +kernel
theorem dX7_takesE_146 : decode cX7_takesE 146 = .ok (.ifCond .ne 8, 3) := by decide +kernel
theorem dX7_takesE_149 : decode cX7_takesE 149 = .ok (.iload 5, 2) := by decide +kernel
theorem dX7_takesE_151 : decode cX7_takesE 151 = .ok (.ifCond .eq 7, 3) := by decide +kernel
theorem dX7_takesE_154 : decode cX7_takesE 154 = .ok (.iconst 1, 1) := by decide +kernel
theorem dX7_takesE_155 : decode cX7_takesE 155 = .ok (.goto 9, 3) := by decide +kernel
theorem dX7_takesE_158 : decode cX7_takesE 158 = .ok (.iconst 0, 1) := by decide +kernel
theorem dX7_takesE_159 : decode cX7_takesE 159 = .ok (.goto 5, 3) := by decide +kernel
theorem dX7_takesE_162 : decode cX7_takesE 162 = .ok (.iload 6, 2) := by decide +kernel
theorem dX7_takesE_164 : decode cX7_takesE 164 = .ok (.istore_n 3, 1) := by decide +kernel
theorem dX7_takesE_165 : decode cX7_takesE 165 = .ok (.iload 7, 2) := by decide +kernel
theorem dX7_takesE_167 : decode cX7_takesE 167 = .ok (.iconst 1, 1) := by decide +kernel
theorem dX7_takesE_168 : decode cX7_takesE 168 = .ok (.if_icmp .ne 7, 3) := by decide +kernel
theorem dX7_takesE_171 : decode cX7_takesE 171 = .ok (.iconst 1, 1) := by decide +kernel
theorem dX7_takesE_172 : decode cX7_takesE 172 = .ok (.goto 4, 3) := by decide +kernel
theorem dX7_takesE_175 : decode cX7_takesE 175 = .ok (.iconst 0, 1) := by decide +kernel
theorem dX7_takesE_176 : decode cX7_takesE 176 = .ok (.istore_n 2, 1) := by decide +kernel
theorem dX7_takesE_177 : decode cX7_takesE 177 = .ok (.aload_n 0, 1) := by decide +kernel
theorem dX7_takesE_178 : decode cX7_takesE 178 = .ok (.invokevirtual 235, 3) := by decide +kernel
theorem dX7_takesE_181 : decode cX7_takesE 181 = .ok (.goto (-162), 3) := by decide +kernel
set_option maxRecDepth 100000 in
theorem ggX7_takesPart_X7_isWord : GoodIn wsX7_takesPart wsX7_isWord := goodIn_r _ [7, 8, 9, 95, 96, 97, 98, 99, 100, 101, 102, 103, 104, 105, 106, 107, 108, 109, 110, 111, 112, 113, 114, 115, 116, 117, 118, 119, 120, 121, 122, 123, 124, 125, 126, 127, 128, 129, 130, 131, 132, 133, 134, 135, 136, 137, 138, 139, 140, 141] rfl (by decide +kernel)
set_option maxRecDepth 100000 in
theorem gX7_takesPart_X7_isWord : GoodIn wsX7_takesPart (wsV RX7 225 RX7 yX7_isWord wsX7_isWord) := goodIn_app (goodIn_of _ (by decide +kernel)) ggX7_takesPart_X7_isWord
set_option maxRecDepth 100000 in
theorem ggX7_takesPart_X7_goOn : GoodIn wsX7_takesPart wsX7_goOn := goodIn_r _ [13, 14, 15, 16, 17, 18, 6, 19, 9, 8, 20, 21, 22, 23, 24, 25, 26, 27, 28, 29, 30, 31, 32, 33, 34, 35, 36, 37, 38, 39, 40, 41, 42, 43, 44, 45, 46, 47, 48, 49, 50, 51, 52, 53, 95, 96, 97, 98, 99, 100, 101, 102, 103, 104, 105, 106, 107, 108, 109, 110, 111, 112, 113, 114, 115, 116, 117, 118, 119, 120, 121, 122, 123, 124, 125, 126, 127, 128, 129, 130, 131, 132, 133, 134, 135, 136, 137, 138, 139, 140, 141] rfl (by decide +kernel)
set_option maxRecDepth 100000 in
theorem gX7_takesPart_X7_goOn : GoodIn wsX7_takesPart (wsV RX7 235 RX7 yX7_goOn wsX7_goOn) := goodIn_app (goodIn_of _ (by decide +kernel)) ggX7_takesPart_X7_goOn
set_option maxRecDepth 100000 in
theorem ggX7_takesPart_X7_takesE : GoodIn wsX7_takesPart wsX7_takesE := goodIn_r _ [57, 2, 58, 59, 8, 60, 61, 62, 6, 63, 64, 65, 66, 67, 68, 69, 70, 71, 72, 73, 74, 75, 76, 77, 78, 3, 4, 5, 7, 9, 79, 80, 81, 82, 38, 39, 40, 41, 42, 43, 44, 45, 46, 47, 83, 84, 85, 86, 87, 88, 89, 90, 91, 92, 93, 94, 10, 11, 12, 13, 14, 15, 16, 17, 18, 19, 20, 21, 22, 23, 24, 25, 26, 27, 28, 29, 30, 31, 32, 33, 34, 35, 36, 37, 48, 49, 50, 51, 52, 53, 95, 96, 97, 98, 99, 100, 101, 102, 103, 104, 105, 106, 107, 108, 109, 110, 111, 112, 113, 114, 115, 116, 117, 118, 119, 120, 121, 122, 123, 124, 125, 126, 127, 128, 129, 130, 131, 132, 133, 134, 135, 136, 137, 138, 139, 140, 141] rfl (by decide +kernel)
set_option maxRecDepth 100000 in
theorem gX7_takesPart_X7_takesE : GoodIn wsX7_takesPart (wsV RX7 238 RX7 yX7_takesE wsX7_takesE) := goodIn_app (goodIn_of _ (by decide +kernel)) ggX7_takesPart_X7_takesE
theorem dX7_takesPart_0 : decode cX7_takesPart 0 = .ok (.aload_n 0, 1) := by decide +kernel
theorem dX7_takesPart_1 : decode cX7_takesPart 1 = .ok (.iload_n 3, 1) := by decide +kernel
theorem dX7_takesPart_2 : decode cX7_takesPart 2 = .ok (.invokevirtual 225, 3) := by decide +kernel
theorem dX7_takesPart_5 : decode cX7_takesPart 5 = .ok (.ifCond .ne 5, 3) := by decide +kernel
theorem dX7_takesPart_8 : decode cX7_takesPart 8 = .ok (.iconst 0, 1) := by decide +kernel
theorem dX7_takesPart_9 : decode cX7_takesPart 9 = .ok (.ireturn, 1) := by decide +kernel
theorem dX7_takesPart_10 : decode cX7_takesPart 10 = .ok (.aload_n 0, 1) := by decide +kernel
theorem dX7_takesPart_11 : decode cX7_takesPart 11 = .ok (.invokevirtual 235, 3) := by decide +kernel
theorem dX7_takesPart_14 : decode cX7_takesPart 14 = .ok (.sipush 480, 3) := by decide +kernel
theorem dX7_takesPart_17 : decode cX7_takesPart 17 = .ok (.iload_n 1, 1) := by decide +kernel
theorem dX7_takesPart_18 : decode cX7_takesPart 18 = .ok (.imul, 1) := by decide +kernel
theorem dX7_takesPart_19 : decode cX7_takesPart 19 = .ok (.sipush 160, 3) := by decide +kernel
theorem dX7_takesPart_22 : decode cX7_takesPart 22 = .ok (.iload_n 2, 1) := by decide +kernel
theorem dX7_takesPart_23 : decode cX7_takesPart 23 = .ok (.imul, 1) := by decide +kernel
theorem dX7_takesPart_24 : decode cX7_takesPart 24 = .ok (.iadd, 1) := by decide +kernel
theorem dX7_takesPart_25 : decode cX7_takesPart 25 = .ok (.istore 4, 2) := by decide +kernel
theorem dX7_takesPart_27 : decode cX7_takesPart 27 = .ok (.aload_n 0, 1) := by decide +kernel
theorem dX7_takesPart_28 : decode cX7_takesPart 28 = .ok (.iload 4, 2) := by decide +kernel
theorem dX7_takesPart_30 : decode cX7_takesPart 30 = .ok (.invokevirtual 238, 3) := by decide +kernel
theorem dX7_takesPart_33 : decode cX7_takesPart 33 = .ok (.ifCond .ne 5, 3) := by decide +kernel
theorem dX7_takesPart_36 : decode cX7_takesPart 36 = .ok (.iconst 0, 1) := by decide +kernel
theorem dX7_takesPart_37 : decode cX7_takesPart 37 = .ok (.ireturn, 1) := by decide +kernel
theorem dX7_takesPart_38 : decode cX7_takesPart 38 = .ok (.aload_n 0, 1) := by decide +kernel
theorem dX7_takesPart_39 : decode cX7_takesPart 39 = .ok (.getfield 89, 3) := by decide +kernel
theorem dX7_takesPart_42 : decode cX7_takesPart 42 = .ok (.iconst 3, 1) := by decide +kernel
theorem dX7_takesPart_43 : decode cX7_takesPart 43 = .ok (.iload_n 1, 1) := by decide +kernel
theorem dX7_takesPart_44 : decode cX7_takesPart 44 = .ok (.imul, 1) := by decide +kernel
theorem dX7_takesPart_45 : decode cX7_takesPart 45 = .ok (.iload_n 2, 1) := by decide +kernel
theorem dX7_takesPart_46 : decode cX7_takesPart 46 = .ok (.iadd, 1) := by decide +kernel
theorem dX7_takesPart_47 : decode cX7_takesPart 47 = .ok (.aload_n 0, 1) := by decide +kernel
theorem dX7_takesPart_48 : decode cX7_takesPart 48 = .ok (.getfield 77, 3) := by decide +kernel
theorem dX7_takesPart_51 : decode cX7_takesPart 51 = .ok (.iload 4, 2) := by decide +kernel
theorem dX7_takesPart_53 : decode cX7_takesPart 53 = .ok (.isub, 1) := by decide +kernel
theorem dX7_takesPart_54 : decode cX7_takesPart 54 = .ok (.iastore, 1) := by decide +kernel
theorem dX7_takesPart_55 : decode cX7_takesPart 55 = .ok (.aload_n 0, 1) := by decide +kernel
theorem dX7_takesPart_56 : decode cX7_takesPart 56 = .ok (.invokevirtual 235, 3) := by decide +kernel
theorem dX7_takesPart_59 : decode cX7_takesPart 59 = .ok (.iconst 1, 1) := by decide +kernel
theorem dX7_takesPart_60 : decode cX7_takesPart 60 = .ok (.ireturn, 1) := by decide +kernel
set_option maxRecDepth 100000 in
theorem ggX7_text_X7_look : GoodIn wsX7_text wsX7_look := goodIn_r _ [11, 2, 12, 13, 5, 14, 15, 16, 10, 17, 6, 18, 19, 20, 21, 22, 23, 24, 25, 26, 27, 28, 29, 30, 31, 32, 33, 34, 35, 36, 37, 38, 39, 40, 41, 42, 43, 44, 3, 4, 100, 101, 102, 103, 104, 105, 106, 107, 108, 109, 110, 111, 112, 113, 114, 115, 116, 117, 118, 119, 120, 121, 122, 123, 124, 125, 126, 127, 128, 129, 130, 131, 132, 133, 134, 135, 136, 137, 138, 139, 140, 141, 142, 143, 144, 145, 146] rfl (by decide +kernel)
set_option maxRecDepth 100000 in
theorem gX7_text_X7_look : GoodIn wsX7_text (wsV RX7 197 RX7 yX7_look wsX7_look) := goodIn_app (goodIn_of _ (by decide +kernel)) ggX7_text_X7_look
set_option maxRecDepth 100000 in
theorem ggX7_text_X7_takesPart : GoodIn wsX7_text wsX7_takesPart := goodIn_r _ [48, 49, 50, 51, 52, 53, 10, 54, 5, 13, 55, 56, 57, 58, 2, 12, 7, 8, 9, 11, 14, 15, 16, 17, 6, 18, 19, 20, 21, 22, 23, 24, 25, 26, 27, 28, 29, 30, 31, 32, 33, 34, 35, 36, 37, 38, 39, 40, 41, 42, 43, 44, 3, 4, 59, 60, 61, 62, 63, 64, 65, 66, 67, 68, 69, 70, 71, 72, 73, 74, 75, 76, 77, 78, 79, 80, 81, 82, 83, 84, 85, 86, 87, 88, 89, 90, 91, 92, 93, 94, 95, 96, 97, 98, 99, 100, 101, 102, 103, 104, 105, 106, 107, 108, 109, 110, 111, 112, 113, 114, 115, 116, 117, 118, 119, 120, 121, 122, 123, 124, 125, 126, 127, 128, 129, 130, 131, 132, 133, 134, 135, 136, 137, 138, 139, 140, 141, 142, 143, 144, 145, 146] rfl (by decide +kernel)
set_option maxRecDepth 100000 in
theorem gX7_text_X7_takesPart : GoodIn wsX7_text (wsV RX7 241 RX7 yX7_takesPart wsX7_takesPart) := goodIn_app (goodIn_of _ (by decide +kernel)) ggX7_text_X7_takesPart
theorem dX7_text_0 : decode cX7_text 0 = .ok (.aload_n 0, 1) := by decide +kernel
theorem dX7_text_1 : decode cX7_text 1 = .ok (.getfield 50, 3) := by decide +kernel
theorem dX7_text_4 : decode cX7_text 4 = .ok (.bipush 6, 2) := by decide +kernel
theorem dX7_text_6 : decode cX7_text 6 = .ok (.if_icmp .ne 6, 3) := by decide +kernel
theorem dX7_text_9 : decode cX7_text 9 = .ok (.bipush (-4), 2) := by decide +kernel
theorem dX7_text_11 : decode cX7_text 11 = .ok (.ireturn, 1) := by decide +kernel
theorem dX7_text_12 : decode cX7_text 12 = .ok (.aload_n 0, 1) := by decide +kernel
theorem dX7_text_13 : decode cX7_text 13 = .ok (.iconst 0, 1) := by decide +kernel
theorem dX7_text_14 : decode cX7_text 14 = .ok (.putfield 59, 3) := by decide +kernel
theorem dX7_text_17 : decode cX7_text 17 = .ok (.aload_n 0, 1) := by decide +kernel
theorem dX7_text_18 : decode cX7_text 18 = .ok (.invokevirtual 197, 3) := by decide +kernel
theorem dX7_text_21 : decode cX7_text 21 = .ok (.aload_n 0, 1) := by decide +kernel
theorem dX7_text_22 : decode cX7_text 22 = .ok (.aload_n 0, 1) := by decide +kernel
theorem dX7_text_23 : decode cX7_text 23 = .ok (.getfield 50, 3) := by decide +kernel
theorem dX7_text_26 : decode cX7_text 26 = .ok (.iconst 0, 1) := by decide +kernel
theorem dX7_text_27 : decode cX7_text 27 = .ok (.ldc 200, 2) := by decide +kernel
theorem dX7_text_29 : decode cX7_text 29 = .ok (.invokevirtual 241, 3) := by decide +kernel
theorem dX7_text_32 : decode cX7_text 32 = .ok (.ifCond .eq 44, 3) := by decide +kernel
theorem dX7_text_35 : decode cX7_text 35 = .ok (.aload_n 0, 1) := by decide +kernel
theorem dX7_text_36 : decode cX7_text 36 = .ok (.aload_n 0, 1) := by decide +kernel
theorem dX7_text_37 : decode cX7_text 37 = .ok (.getfield 50, 3) := by decide +kernel
theorem dX7_text_40 : decode cX7_text 40 = .ok (.iconst 1, 1) := by decide +kernel
theorem dX7_text_41 : decode cX7_text 41 = .ok (.ldc 201, 2) := by decide +kernel
theorem dX7_text_43 : decode cX7_text 43 = .ok (.invokevirtual 241, 3) := by decide +kernel
theorem dX7_text_46 : decode cX7_text 46 = .ok (.ifCond .eq 30, 3) := by decide +kernel
theorem dX7_text_49 : decode cX7_text 49 = .ok (.aload_n 0, 1) := by decide +kernel
theorem dX7_text_50 : decode cX7_text 50 = .ok (.aload_n 0, 1) := by decide +kernel
theorem dX7_text_51 : decode cX7_text 51 = .ok (.getfield 50, 3) := by decide +kernel
theorem dX7_text_54 : decode cX7_text 54 = .ok (.iconst 2, 1) := by decide +kernel
theorem dX7_text_55 : decode cX7_text 55 = .ok (.sipush 5572, 3) := by decide +kernel
theorem dX7_text_58 : decode cX7_text 58 = .ok (.invokevirtual 241, 3) := by decide +kernel
theorem dX7_text_61 : decode cX7_text 61 = .ok (.ifCond .eq 15, 3) := by decide +kernel
theorem dX7_text_64 : decode cX7_text 64 = .ok (.aload_n 0, 1) := by decide +kernel
theorem dX7_text_65 : decode cX7_text 65 = .ok (.getfield 62, 3) := by decide +kernel
theorem dX7_text_68 : decode cX7_text 68 = .ok (.iconst (-1), 1) := by decide +kernel
theorem dX7_text_69 : decode cX7_text 69 = .ok (.if_icmp .ne 7, 3) := by decide +kernel
theorem dX7_text_72 : decode cX7_text 72 = .ok (.iconst 1, 1) := by decide +kernel
theorem dX7_text_73 : decode cX7_text 73 = .ok (.goto 4, 3) := by decide +kernel
theorem dX7_text_76 : decode cX7_text 76 = .ok (.iconst 0, 1) := by decide +kernel
theorem dX7_text_77 : decode cX7_text 77 = .ok (.istore_n 1, 1) := by decide +kernel
theorem dX7_text_78 : decode cX7_text 78 = .ok (.aload_n 0, 1) := by decide +kernel
theorem dX7_text_79 : decode cX7_text 79 = .ok (.iconst 0, 1) := by decide +kernel
theorem dX7_text_80 : decode cX7_text 80 = .ok (.putfield 56, 3) := by decide +kernel
theorem dX7_text_83 : decode cX7_text 83 = .ok (.iload_n 1, 1) := by decide +kernel
theorem dX7_text_84 : decode cX7_text 84 = .ok (.ifCond .ne 11, 3) := by decide +kernel
theorem dX7_text_87 : decode cX7_text 87 = .ok (.bipush (-100), 2) := by decide +kernel
theorem dX7_text_89 : decode cX7_text 89 = .ok (.aload_n 0, 1) := by decide +kernel
theorem dX7_text_90 : decode cX7_text 90 = .ok (.getfield 59, 3) := by decide +kernel
theorem dX7_text_93 : decode cX7_text 93 = .ok (.isub, 1) := by decide +kernel
theorem dX7_text_94 : decode cX7_text 94 = .ok (.ireturn, 1) := by decide +kernel
theorem dX7_text_95 : decode cX7_text 95 = .ok (.aload_n 0, 1) := by decide +kernel
theorem dX7_text_96 : decode cX7_text 96 = .ok (.dup, 1) := by decide +kernel
theorem dX7_text_97 : decode cX7_text 97 = .ok (.getfield 50, 3) := by decide +kernel
theorem dX7_text_100 : decode cX7_text 100 = .ok (.iconst 1, 1) := by decide +kernel
theorem dX7_text_101 : decode cX7_text 101 = .ok (.iadd, 1) := by decide +kernel
theorem dX7_text_102 : decode cX7_text 102 = .ok (.putfield 50, 3) := by decide +kernel
theorem dX7_text_105 : decode cX7_text 105 = .ok (.aload_n 0, 1) := by decide +kernel
theorem dX7_text_106 : decode cX7_text 106 = .ok (.getfield 50, 3) := by decide +kernel
theorem dX7_text_109 : decode cX7_text 109 = .ok (.iconst 1, 1) := by decide +kernel
theorem dX7_text_110 : decode cX7_text 110 = .ok (.isub, 1) := by decide +kernel
theorem dX7_text_111 : decode cX7_text 111 = .ok (.ireturn, 1) := by decide +kernel
set_option maxRecDepth 100000 in
theorem ggX7_force_X7_in : GoodIn wsX7_force wsX7_in := goodIn_r _ [7] rfl (by decide +kernel)
set_option maxRecDepth 100000 in
theorem gX7_force_X7_in : GoodIn wsX7_force (wsV RX7 7 RX7 yX7_in wsX7_in) := goodIn_app (goodIn_of _ (by decide +kernel)) ggX7_force_X7_in
theorem dX7_force_0 : decode cX7_force 0 = .ok (.aload_n 0, 1) := by decide +kernel
theorem dX7_force_1 : decode cX7_force 1 = .ok (.iload_n 1, 1) := by decide +kernel
theorem dX7_force_2 : decode cX7_force 2 = .ok (.iconst 0, 1) := by decide +kernel
theorem dX7_force_3 : decode cX7_force 3 = .ok (.aload_n 0, 1) := by decide +kernel
theorem dX7_force_4 : decode cX7_force 4 = .ok (.getfield 50, 3) := by decide +kernel
theorem dX7_force_7 : decode cX7_force 7 = .ok (.iconst 1, 1) := by decide +kernel
theorem dX7_force_8 : decode cX7_force 8 = .ok (.isub, 1) := by decide +kernel
theorem dX7_force_9 : decode cX7_force 9 = .ok (.invokevirtual 7, 3) := by decide +kernel
theorem dX7_force_12 : decode cX7_force 12 = .ok (.ifCond .ne 6, 3) := by decide +kernel
theorem dX7_force_15 : decode cX7_force 15 = .ok (.bipush (-2), 2) := by decide +kernel
theorem dX7_force_17 : decode cX7_force 17 = .ok (.ireturn, 1) := by decide +kernel
theorem dX7_force_18 : decode cX7_force 18 = .ok (.aload_n 0, 1) := by decide +kernel
theorem dX7_force_19 : decode cX7_force 19 = .ok (.getfield 53, 3) := by decide +kernel
theorem dX7_force_22 : decode cX7_force 22 = .ok (.istore_n 2, 1) := by decide +kernel
theorem dX7_force_23 : decode cX7_force 23 = .ok (.aload_n 0, 1) := by decide +kernel
theorem dX7_force_24 : decode cX7_force 24 = .ok (.iload_n 1, 1) := by decide +kernel
theorem dX7_force_25 : decode cX7_force 25 = .ok (.putfield 53, 3) := by decide +kernel
theorem dX7_force_28 : decode cX7_force 28 = .ok (.iload_n 2, 1) := by decide +kernel
theorem dX7_force_29 : decode cX7_force 29 = .ok (.ireturn, 1) := by decide +kernel
theorem dX7_done_0 : decode cX7_done 0 = .ok (.iload_n 1, 1) := by decide +kernel
theorem dX7_done_1 : decode cX7_done 1 = .ok (.tableswitch 101 2 8 #[43, 57, 101, 71, 82, 93, 97], 43) := by decide +kernel
theorem dX7_done_44 : decode cX7_done 44 = .ok (.iload_n 2, 1) := by decide +kernel
theorem dX7_done_45 : decode cX7_done 45 = .ok (.ifCond .ne 7, 3) := by decide +kernel
theorem dX7_done_48 : decode cX7_done 48 = .ok (.iload_n 3, 1) := by decide +kernel
theorem dX7_done_49 : decode cX7_done 49 = .ok (.ifCond .eq 7, 3) := by decide +kernel
theorem dX7_done_52 : decode cX7_done 52 = .ok (.iconst 1, 1) := by decide +kernel
theorem dX7_done_53 : decode cX7_done 53 = .ok (.goto 4, 3) := by decide +kernel
theorem dX7_done_56 : decode cX7_done 56 = .ok (.iconst 0, 1) := by decide +kernel
theorem dX7_done_57 : decode cX7_done 57 = .ok (.ireturn, 1) := by decide +kernel
theorem dX7_done_58 : decode cX7_done 58 = .ok (.iload_n 2, 1) := by decide +kernel
theorem dX7_done_59 : decode cX7_done 59 = .ok (.ifCond .eq 11, 3) := by decide +kernel
theorem dX7_done_62 : decode cX7_done 62 = .ok (.iload_n 3, 1) := by decide +kernel
theorem dX7_done_63 : decode cX7_done 63 = .ok (.ifCond .eq 7, 3) := by decide +kernel
theorem dX7_done_66 : decode cX7_done 66 = .ok (.iconst 1, 1) := by decide +kernel
theorem dX7_done_67 : decode cX7_done 67 = .ok (.goto 4, 3) := by decide +kernel
theorem dX7_done_70 : decode cX7_done 70 = .ok (.iconst 0, 1) := by decide +kernel
theorem dX7_done_71 : decode cX7_done 71 = .ok (.ireturn, 1) := by decide +kernel
theorem dX7_done_72 : decode cX7_done 72 = .ok (.iload_n 2, 1) := by decide +kernel
theorem dX7_done_73 : decode cX7_done 73 = .ok (.iload_n 3, 1) := by decide +kernel
theorem dX7_done_74 : decode cX7_done 74 = .ok (.if_icmp .ge 7, 3) := by decide +kernel
theorem dX7_done_77 : decode cX7_done 77 = .ok (.iconst 1, 1) := by decide +kernel
theorem dX7_done_78 : decode cX7_done 78 = .ok (.goto 4, 3) := by decide +kernel
theorem dX7_done_81 : decode cX7_done 81 = .ok (.iconst 0, 1) := by decide +kernel
theorem dX7_done_82 : decode cX7_done 82 = .ok (.ireturn, 1) := by decide +kernel
theorem dX7_done_83 : decode cX7_done 83 = .ok (.iload_n 2, 1) := by decide +kernel
theorem dX7_done_84 : decode cX7_done 84 = .ok (.iload_n 3, 1) := by decide +kernel
theorem dX7_done_85 : decode cX7_done 85 = .ok (.if_icmp .ne 7, 3) := by decide +kernel
theorem dX7_done_88 : decode cX7_done 88 = .ok (.iconst 1, 1) := by decide +kernel
theorem dX7_done_89 : decode cX7_done 89 = .ok (.goto 4, 3) := by decide +kernel
theorem dX7_done_92 : decode cX7_done 92 = .ok (.iconst 0, 1) := by decide +kernel
theorem dX7_done_93 : decode cX7_done 93 = .ok (.ireturn, 1) := by decide +kernel
theorem dX7_done_94 : decode cX7_done 94 = .ok (.iload_n 2, 1) := by decide +kernel
theorem dX7_done_95 : decode cX7_done 95 = .ok (.iload_n 3, 1) := by decide +kernel
theorem dX7_done_96 : decode cX7_done 96 = .ok (.iadd, 1) := by decide +kernel
theorem dX7_done_97 : decode cX7_done 97 = .ok (.ireturn, 1) := by decide +kernel
theorem dX7_done_98 : decode cX7_done 98 = .ok (.iload_n 2, 1) := by decide +kernel
theorem dX7_done_99 : decode cX7_done 99 = .ok (.iload_n 3, 1) := by decide +kernel
theorem dX7_done_100 : decode cX7_done 100 = .ok (.isub, 1) := by decide +kernel
theorem dX7_done_101 : decode cX7_done 101 = .ok (.ireturn, 1) := by decide +kernel
theorem dX7_done_102 : decode cX7_done 102 = .ok (.iload_n 2, 1) := by decide +kernel
theorem dX7_done_103 : decode cX7_done 103 = .ok (.iload_n 3, 1) := by decide +kernel
theorem dX7_done_104 : decode cX7_done 104 = .ok (.imul, 1) := by decide +kernel
theorem dX7_done_105 : decode cX7_done 105 = .ok (.ireturn, 1) := by decide +kernel
set_option maxRecDepth 100000 in
theorem ggX7_tellsRule_X7_done : GoodIn wsX7_tellsRule wsX7_done := goodIn_r _ [11] rfl (by decide +kernel)
set_option maxRecDepth 100000 in
theorem gX7_tellsRule_X7_done : GoodIn wsX7_tellsRule (wsV RX7 244 RX7 yX7_done wsX7_done) := goodIn_app (goodIn_of _ (by decide +kernel)) ggX7_tellsRule_X7_done
theorem dX7_tellsRule_0 : decode cX7_tellsRule 0 = .ok (.sipush 480, 3) := by decide +kernel
theorem dX7_tellsRule_3 : decode cX7_tellsRule 3 = .ok (.aload_n 0, 1) := by decide +kernel
theorem dX7_tellsRule_4 : decode cX7_tellsRule 4 = .ok (.getfield 53, 3) := by decide +kernel
theorem dX7_tellsRule_7 : decode cX7_tellsRule 7 = .ok (.imul, 1) := by decide +kernel
theorem dX7_tellsRule_8 : decode cX7_tellsRule 8 = .ok (.sipush 160, 3) := by decide +kernel
theorem dX7_tellsRule_11 : decode cX7_tellsRule 11 = .ok (.iload_n 1, 1) := by decide +kernel
theorem dX7_tellsRule_12 : decode cX7_tellsRule 12 = .ok (.imul, 1) := by decide +kernel
theorem dX7_tellsRule_13 : decode cX7_tellsRule 13 = .ok (.iadd, 1) := by decide +kernel
theorem dX7_tellsRule_14 : decode cX7_tellsRule 14 = .ok (.istore_n 2, 1) := by decide +kernel
theorem dX7_tellsRule_15 : decode cX7_tellsRule 15 = .ok (.iconst 0, 1) := by decide +kernel
theorem dX7_tellsRule_16 : decode cX7_tellsRule 16 = .ok (.istore_n 3, 1) := by decide +kernel
theorem dX7_tellsRule_17 : decode cX7_tellsRule 17 = .ok (.iload_n 2, 1) := by decide +kernel
theorem dX7_tellsRule_18 : decode cX7_tellsRule 18 = .ok (.istore 4, 2) := by decide +kernel
theorem dX7_tellsRule_20 : decode cX7_tellsRule 20 = .ok (.iload 4, 2) := by decide +kernel
theorem dX7_tellsRule_22 : decode cX7_tellsRule 22 = .ok (.iload_n 2, 1) := by decide +kernel
theorem dX7_tellsRule_23 : decode cX7_tellsRule 23 = .ok (.aload_n 0, 1) := by decide +kernel
theorem dX7_tellsRule_24 : decode cX7_tellsRule 24 = .ok (.getfield 89, 3) := by decide +kernel
theorem dX7_tellsRule_27 : decode cX7_tellsRule 27 = .ok (.iconst 3, 1) := by decide +kernel
theorem dX7_tellsRule_28 : decode cX7_tellsRule 28 = .ok (.aload_n 0, 1) := by decide +kernel
theorem dX7_tellsRule_29 : decode cX7_tellsRule 29 = .ok (.getfield 53, 3) := by decide +kernel
theorem dX7_tellsRule_32 : decode cX7_tellsRule 32 = .ok (.imul, 1) := by decide +kernel
theorem dX7_tellsRule_33 : decode cX7_tellsRule 33 = .ok (.iload_n 1, 1) := by decide +kernel
theorem dX7_tellsRule_34 : decode cX7_tellsRule 34 = .ok (.iadd, 1) := by decide +kernel
theorem dX7_tellsRule_35 : decode cX7_tellsRule 35 = .ok (.iaload, 1) := by decide +kernel
theorem dX7_tellsRule_36 : decode cX7_tellsRule 36 = .ok (.iadd, 1) := by decide +kernel
theorem dX7_tellsRule_37 : decode cX7_tellsRule 37 = .ok (.if_icmp .ge 158, 3) := by decide +kernel
theorem dX7_tellsRule_40 : decode cX7_tellsRule 40 = .ok (.aload_n 0, 1) := by decide +kernel
theorem dX7_tellsRule_41 : decode cX7_tellsRule 41 = .ok (.getfield 83, 3) := by decide +kernel
theorem dX7_tellsRule_44 : decode cX7_tellsRule 44 = .ok (.iload 4, 2) := by decide +kernel
theorem dX7_tellsRule_46 : decode cX7_tellsRule 46 = .ok (.iaload, 1) := by decide +kernel
theorem dX7_tellsRule_47 : decode cX7_tellsRule 47 = .ok (.istore 5, 2) := by decide +kernel
theorem dX7_tellsRule_49 : decode cX7_tellsRule 49 = .ok (.iload 5, 2) := by decide +kernel
theorem dX7_tellsRule_51 : decode cX7_tellsRule 51 = .ok (.ifCond .eq 9, 3) := by decide +kernel
theorem dX7_tellsRule_54 : decode cX7_tellsRule 54 = .ok (.iload 5, 2) := by decide +kernel
theorem dX7_tellsRule_56 : decode cX7_tellsRule 56 = .ok (.iconst 1, 1) := by decide +kernel
theorem dX7_tellsRule_57 : decode cX7_tellsRule 57 = .ok (.if_icmp .ne 42, 3) := by decide +kernel
theorem dX7_tellsRule_60 : decode cX7_tellsRule 60 = .ok (.aload_n 0, 1) := by decide +kernel
theorem dX7_tellsRule_61 : decode cX7_tellsRule 61 = .ok (.getfield 95, 3) := by decide +kernel
theorem dX7_tellsRule_64 : decode cX7_tellsRule 64 = .ok (.iload_n 3, 1) := by decide +kernel
theorem dX7_tellsRule_65 : decode cX7_tellsRule 65 = .ok (.iload 5, 2) := by decide +kernel
theorem dX7_tellsRule_67 : decode cX7_tellsRule 67 = .ok (.ifCond .ne 13, 3) := by decide +kernel
theorem dX7_tellsRule_70 : decode cX7_tellsRule 70 = .ok (.aload_n 0, 1) := by decide +kernel
theorem dX7_tellsRule_71 : decode cX7_tellsRule 71 = .ok (.getfield 86, 3) := by decide +kernel
theorem dX7_tellsRule_74 : decode cX7_tellsRule 74 = .ok (.iload 4, 2) := by decide +kernel
theorem dX7_tellsRule_76 : decode cX7_tellsRule 76 = .ok (.iaload, 1) := by decide +kernel
theorem dX7_tellsRule_77 : decode cX7_tellsRule 77 = .ok (.goto 15, 3) := by decide +kernel
theorem dX7_tellsRule_80 : decode cX7_tellsRule 80 = .ok (.aload_n 0, 1) := by decide +kernel
theorem dX7_tellsRule_81 : decode cX7_tellsRule 81 = .ok (.getfield 98, 3) := by decide +kernel
theorem dX7_tellsRule_84 : decode cX7_tellsRule 84 = .ok (.aload_n 0, 1) := by decide +kernel
theorem dX7_tellsRule_85 : decode cX7_tellsRule 85 = .ok (.getfield 86, 3) := by decide +kernel
theorem dX7_tellsRule_88 : decode cX7_tellsRule 88 = .ok (.iload 4, 2) := by decide +kernel
theorem dX7_tellsRule_90 : decode cX7_tellsRule 90 = .ok (.iaload, 1) := by decide +kernel
theorem dX7_tellsRule_91 : decode cX7_tellsRule 91 = .ok (.iaload, 1) := by decide +kernel
theorem dX7_tellsRule_92 : decode cX7_tellsRule 92 = .ok (.iastore, 1) := by decide +kernel
theorem dX7_tellsRule_93 : decode cX7_tellsRule 93 = .ok (.iinc 3 1, 3) := by decide +kernel
theorem dX7_tellsRule_96 : decode cX7_tellsRule 96 = .ok (.goto 93, 3) := by decide +kernel
theorem dX7_tellsRule_99 : decode cX7_tellsRule 99 = .ok (.iload 5, 2) := by decide +kernel
theorem dX7_tellsRule_101 : decode cX7_tellsRule 101 = .ok (.iconst 4, 1) := by decide +kernel
theorem dX7_tellsRule_102 : decode cX7_tellsRule 102 = .ok (.if_icmp .eq 10, 3) := by decide +kernel
theorem dX7_tellsRule_105 : decode cX7_tellsRule 105 = .ok (.iload 5, 2) := by decide +kernel
theorem dX7_tellsRule_107 : decode cX7_tellsRule 107 = .ok (.bipush 10, 2) := by decide +kernel
theorem dX7_tellsRule_109 : decode cX7_tellsRule 109 = .ok (.if_icmp .ne 49, 3) := by decide +kernel
theorem dX7_tellsRule_112 : decode cX7_tellsRule 112 = .ok (.aload_n 0, 1) := by decide +kernel
theorem dX7_tellsRule_113 : decode cX7_tellsRule 113 = .ok (.getfield 95, 3) := by decide +kernel
theorem dX7_tellsRule_116 : decode cX7_tellsRule 116 = .ok (.iload_n 3, 1) := by decide +kernel
theorem dX7_tellsRule_117 : decode cX7_tellsRule 117 = .ok (.iconst 1, 1) := by decide +kernel
theorem dX7_tellsRule_118 : decode cX7_tellsRule 118 = .ok (.isub, 1) := by decide +kernel
theorem dX7_tellsRule_119 : decode cX7_tellsRule 119 = .ok (.iload 5, 2) := by decide +kernel
theorem dX7_tellsRule_121 : decode cX7_tellsRule 121 = .ok (.bipush 10, 2) := by decide +kernel
theorem dX7_tellsRule_123 : decode cX7_tellsRule 123 = .ok (.if_icmp .ne 15, 3) := by decide +kernel
theorem dX7_tellsRule_126 : decode cX7_tellsRule 126 = .ok (.aload_n 0, 1) := by decide +kernel
theorem dX7_tellsRule_127 : decode cX7_tellsRule 127 = .ok (.getfield 95, 3) := by decide +kernel
theorem dX7_tellsRule_130 : decode cX7_tellsRule 130 = .ok (.iload_n 3, 1) := by decide +kernel
theorem dX7_tellsRule_131 : decode cX7_tellsRule 131 = .ok (.iconst 1, 1) := by decide +kernel
theorem dX7_tellsRule_132 : decode cX7_tellsRule 132 = .ok (.isub, 1) := by decide +kernel
theorem dX7_tellsRule_133 : decode cX7_tellsRule 133 = .ok (.iaload, 1) := by decide +kernel
theorem dX7_tellsRule_134 : decode cX7_tellsRule 134 = .ok (.ineg, 1) := by decide +kernel
theorem dX7_tellsRule_135 : decode cX7_tellsRule 135 = .ok (.goto 19, 3) := by decide +kernel
theorem dX7_tellsRule_138 : decode cX7_tellsRule 138 = .ok (.aload_n 0, 1) := by decide +kernel
theorem dX7_tellsRule_139 : decode cX7_tellsRule 139 = .ok (.getfield 95, 3) := by decide +kernel
theorem dX7_tellsRule_142 : decode cX7_tellsRule 142 = .ok (.iload_n 3, 1) := by decide +kernel
theorem dX7_tellsRule_143 : decode cX7_tellsRule 143 = .ok (.iconst 1, 1) := by decide +kernel
theorem dX7_tellsRule_144 : decode cX7_tellsRule 144 = .ok (.isub, 1) := by decide +kernel
theorem dX7_tellsRule_145 : decode cX7_tellsRule 145 = .ok (.iaload, 1) := by decide +kernel
theorem dX7_tellsRule_146 : decode cX7_tellsRule 146 = .ok (.ifCond .ne 7, 3) := by decide +kernel
theorem dX7_tellsRule_149 : decode cX7_tellsRule 149 = .ok (.iconst 1, 1) := by decide +kernel
theorem dX7_tellsRule_150 : decode cX7_tellsRule 150 = .ok (.goto 4, 3) := by decide +kernel
theorem dX7_tellsRule_153 : decode cX7_tellsRule 153 = .ok (.iconst 0, 1) := by decide +kernel
theorem dX7_tellsRule_154 : decode cX7_tellsRule 154 = .ok (.iastore, 1) := by decide +kernel
theorem dX7_tellsRule_155 : decode cX7_tellsRule 155 = .ok (.goto 34, 3) := by decide +kernel
theorem dX7_tellsRule_158 : decode cX7_tellsRule 158 = .ok (.iinc 3 (-1), 3) := by decide +kernel
theorem dX7_tellsRule_161 : decode cX7_tellsRule 161 = .ok (.aload_n 0, 1) := by decide +kernel
theorem dX7_tellsRule_162 : decode cX7_tellsRule 162 = .ok (.getfield 95, 3) := by decide +kernel
theorem dX7_tellsRule_165 : decode cX7_tellsRule 165 = .ok (.iload_n 3, 1) := by decide +kernel
theorem dX7_tellsRule_166 : decode cX7_tellsRule 166 = .ok (.iconst 1, 1) := by decide +kernel
theorem dX7_tellsRule_167 : decode cX7_tellsRule 167 = .ok (.isub, 1) := by decide +kernel
theorem dX7_tellsRule_168 : decode cX7_tellsRule 168 = .ok (.aload_n 0, 1) := by decide +kernel
theorem dX7_tellsRule_169 : decode cX7_tellsRule 169 = .ok (.iload 5, 2) := by decide +kernel
theorem dX7_tellsRule_171 : decode cX7_tellsRule 171 = .ok (.aload_n 0, 1) := by decide +kernel
theorem dX7_tellsRule_172 : decode cX7_tellsRule 172 = .ok (.getfield 95, 3) := by decide +kernel
theorem dX7_tellsRule_175 : decode cX7_tellsRule 175 = .ok (.iload_n 3, 1) := by decide +kernel
theorem dX7_tellsRule_176 : decode cX7_tellsRule 176 = .ok (.iconst 1, 1) := by decide +kernel
theorem dX7_tellsRule_177 : decode cX7_tellsRule 177 = .ok (.isub, 1) := by decide +kernel
theorem dX7_tellsRule_178 : decode cX7_tellsRule 178 = .ok (.iaload, 1) := by decide +kernel
theorem dX7_tellsRule_179 : decode cX7_tellsRule 179 = .ok (.aload_n 0, 1) := by decide +kernel
theorem dX7_tellsRule_180 : decode cX7_tellsRule 180 = .ok (.getfield 95, 3) := by decide +kernel
theorem dX7_tellsRule_183 : decode cX7_tellsRule 183 = .ok (.iload_n 3, 1) := by decide +kernel
theorem dX7_tellsRule_184 : decode cX7_tellsRule 184 = .ok (.iaload, 1) := by decide +kernel
theorem dX7_tellsRule_185 : decode cX7_tellsRule 185 = .ok (.invokevirtual 244, 3) := by decide +kernel
theorem dX7_tellsRule_188 : decode cX7_tellsRule 188 = .ok (.iastore, 1) := by decide +kernel
theorem dX7_tellsRule_189 : decode cX7_tellsRule 189 = .ok (.iinc 4 1, 3) := by decide +kernel
theorem dX7_tellsRule_192 : decode cX7_tellsRule 192 = .ok (.goto (-172), 3) := by decide +kernel
theorem dX7_tellsRule_195 : decode cX7_tellsRule 195 = .ok (.aload_n 0, 1) := by decide +kernel
theorem dX7_tellsRule_196 : decode cX7_tellsRule 196 = .ok (.getfield 95, 3) := by decide +kernel
theorem dX7_tellsRule_199 : decode cX7_tellsRule 199 = .ok (.iconst 0, 1) := by decide +kernel
theorem dX7_tellsRule_200 : decode cX7_tellsRule 200 = .ok (.iaload, 1) := by decide +kernel
theorem dX7_tellsRule_201 : decode cX7_tellsRule 201 = .ok (.ireturn, 1) := by decide +kernel
set_option maxRecDepth 100000 in
theorem ggX7_bounded_X7_tellsRule : GoodIn wsX7_bounded wsX7_tellsRule := goodIn_r _ [6, 7, 8, 9, 10, 11, 1, 12, 13, 14, 5, 15, 16, 17, 18, 19, 20, 21, 22, 23, 24, 25, 26, 27, 28, 29, 30, 31, 32, 33, 34, 35, 36, 37, 38, 39, 40, 41, 42, 43, 44, 45, 46, 47, 48, 49, 50, 51, 52, 53, 54, 55, 56, 57, 58, 59, 60, 61, 62] rfl (by decide +kernel)
set_option maxRecDepth 100000 in
theorem gX7_bounded_X7_tellsRule : GoodIn wsX7_bounded (wsV RX7 248 RX7 yX7_tellsRule wsX7_tellsRule) := goodIn_app (goodIn_of _ (by decide +kernel)) ggX7_bounded_X7_tellsRule
theorem dX7_bounded_0 : decode cX7_bounded 0 = .ok (.iload 6, 2) := by decide +kernel
theorem dX7_bounded_2 : decode cX7_bounded 2 = .ok (.ifCond .ne 10, 3) := by decide +kernel
theorem dX7_bounded_5 : decode cX7_bounded 5 = .ok (.iload_n 1, 1) := by decide +kernel
theorem dX7_bounded_6 : decode cX7_bounded 6 = .ok (.iconst 4, 1) := by decide +kernel
theorem dX7_bounded_7 : decode cX7_bounded 7 = .ok (.if_icmp .ne 5, 3) := by decide +kernel
theorem dX7_bounded_10 : decode cX7_bounded 10 = .ok (.iconst 0, 1) := by decide +kernel
theorem dX7_bounded_11 : decode cX7_bounded 11 = .ok (.ireturn, 1) := by decide +kernel
theorem dX7_bounded_12 : decode cX7_bounded 12 = .ok (.aload_n 0, 1) := by decide +kernel
theorem dX7_bounded_13 : decode cX7_bounded 13 = .ok (.getfield 98, 3) := by decide +kernel
theorem dX7_bounded_16 : decode cX7_bounded 16 = .ok (.iconst 0, 1) := by decide +kernel
theorem dX7_bounded_17 : decode cX7_bounded 17 = .ok (.iload_n 1, 1) := by decide +kernel
theorem dX7_bounded_18 : decode cX7_bounded 18 = .ok (.iastore, 1) := by decide +kernel
theorem dX7_bounded_19 : decode cX7_bounded 19 = .ok (.aload_n 0, 1) := by decide +kernel
theorem dX7_bounded_20 : decode cX7_bounded 20 = .ok (.getfield 98, 3) := by decide +kernel
theorem dX7_bounded_23 : decode cX7_bounded 23 = .ok (.iconst 1, 1) := by decide +kernel
theorem dX7_bounded_24 : decode cX7_bounded 24 = .ok (.iload_n 2, 1) := by decide +kernel
theorem dX7_bounded_25 : decode cX7_bounded 25 = .ok (.iastore, 1) := by decide +kernel
theorem dX7_bounded_26 : decode cX7_bounded 26 = .ok (.aload_n 0, 1) := by decide +kernel
theorem dX7_bounded_27 : decode cX7_bounded 27 = .ok (.getfield 98, 3) := by decide +kernel
theorem dX7_bounded_30 : decode cX7_bounded 30 = .ok (.iconst 2, 1) := by decide +kernel
theorem dX7_bounded_31 : decode cX7_bounded 31 = .ok (.iload_n 3, 1) := by decide +kernel
theorem dX7_bounded_32 : decode cX7_bounded 32 = .ok (.iastore, 1) := by decide +kernel
theorem dX7_bounded_33 : decode cX7_bounded 33 = .ok (.aload_n 0, 1) := by decide +kernel
theorem dX7_bounded_34 : decode cX7_bounded 34 = .ok (.getfield 98, 3) := by decide +kernel
theorem dX7_bounded_37 : decode cX7_bounded 37 = .ok (.iconst 3, 1) := by decide +kernel
theorem dX7_bounded_38 : decode cX7_bounded 38 = .ok (.iload 4, 2) := by decide +kernel
theorem dX7_bounded_40 : decode cX7_bounded 40 = .ok (.iastore, 1) := by decide +kernel
theorem dX7_bounded_41 : decode cX7_bounded 41 = .ok (.aload_n 0, 1) := by decide +kernel
theorem dX7_bounded_42 : decode cX7_bounded 42 = .ok (.getfield 98, 3) := by decide +kernel
theorem dX7_bounded_45 : decode cX7_bounded 45 = .ok (.iconst 4, 1) := by decide +kernel
theorem dX7_bounded_46 : decode cX7_bounded 46 = .ok (.iload 5, 2) := by decide +kernel
theorem dX7_bounded_48 : decode cX7_bounded 48 = .ok (.iastore, 1) := by decide +kernel
theorem dX7_bounded_49 : decode cX7_bounded 49 = .ok (.aload_n 0, 1) := by decide +kernel
theorem dX7_bounded_50 : decode cX7_bounded 50 = .ok (.getfield 98, 3) := by decide +kernel
theorem dX7_bounded_53 : decode cX7_bounded 53 = .ok (.iconst 5, 1) := by decide +kernel
theorem dX7_bounded_54 : decode cX7_bounded 54 = .ok (.iload_n 3, 1) := by decide +kernel
theorem dX7_bounded_55 : decode cX7_bounded 55 = .ok (.iconst 4, 1) := by decide +kernel
theorem dX7_bounded_56 : decode cX7_bounded 56 = .ok (.if_icmp .le 7, 3) := by decide +kernel
theorem dX7_bounded_59 : decode cX7_bounded 59 = .ok (.iconst 0, 1) := by decide +kernel
theorem dX7_bounded_60 : decode cX7_bounded 60 = .ok (.goto 6, 3) := by decide +kernel
theorem dX7_bounded_63 : decode cX7_bounded 63 = .ok (.iconst 4, 1) := by decide +kernel
theorem dX7_bounded_64 : decode cX7_bounded 64 = .ok (.iload_n 3, 1) := by decide +kernel
theorem dX7_bounded_65 : decode cX7_bounded 65 = .ok (.isub, 1) := by decide +kernel
theorem dX7_bounded_66 : decode cX7_bounded 66 = .ok (.iastore, 1) := by decide +kernel
theorem dX7_bounded_67 : decode cX7_bounded 67 = .ok (.aload_n 0, 1) := by decide +kernel
theorem dX7_bounded_68 : decode cX7_bounded 68 = .ok (.iload 6, 2) := by decide +kernel
theorem dX7_bounded_70 : decode cX7_bounded 70 = .ok (.invokevirtual 248, 3) := by decide +kernel
theorem dX7_bounded_73 : decode cX7_bounded 73 = .ok (.istore 7, 2) := by decide +kernel
theorem dX7_bounded_75 : decode cX7_bounded 75 = .ok (.iload 6, 2) := by decide +kernel
theorem dX7_bounded_77 : decode cX7_bounded 77 = .ok (.iconst 2, 1) := by decide +kernel
theorem dX7_bounded_78 : decode cX7_bounded 78 = .ok (.if_icmp .ne 8, 3) := by decide +kernel
theorem dX7_bounded_81 : decode cX7_bounded 81 = .ok (.bipush 99, 2) := by decide +kernel
theorem dX7_bounded_83 : decode cX7_bounded 83 = .ok (.goto 5, 3) := by decide +kernel
theorem dX7_bounded_86 : decode cX7_bounded 86 = .ok (.bipush 10, 2) := by decide +kernel
theorem dX7_bounded_88 : decode cX7_bounded 88 = .ok (.istore 8, 2) := by decide +kernel
theorem dX7_bounded_90 : decode cX7_bounded 90 = .ok (.iload 7, 2) := by decide +kernel
theorem dX7_bounded_92 : decode cX7_bounded 92 = .ok (.ifCond .ge 7, 3) := by decide +kernel
theorem dX7_bounded_95 : decode cX7_bounded 95 = .ok (.iconst 0, 1) := by decide +kernel
theorem dX7_bounded_96 : decode cX7_bounded 96 = .ok (.goto 17, 3) := by decide +kernel
theorem dX7_bounded_99 : decode cX7_bounded 99 = .ok (.iload 7, 2) := by decide +kernel
theorem dX7_bounded_101 : decode cX7_bounded 101 = .ok (.iload 8, 2) := by decide +kernel
theorem dX7_bounded_103 : decode cX7_bounded 103 = .ok (.if_icmp .le 8, 3) := by decide +kernel
theorem dX7_bounded_106 : decode cX7_bounded 106 = .ok (.iload 8, 2) := by decide +kernel
theorem dX7_bounded_108 : decode cX7_bounded 108 = .ok (.goto 5, 3) := by decide +kernel
theorem dX7_bounded_111 : decode cX7_bounded 111 = .ok (.iload 7, 2) := by decide +kernel
theorem dX7_bounded_113 : decode cX7_bounded 113 = .ok (.ireturn, 1) := by decide +kernel
set_option maxRecDepth 100000 in
theorem ggX7_says_X7_in : GoodIn wsX7_says wsX7_in := goodIn_r _ [5] rfl (by decide +kernel)
set_option maxRecDepth 100000 in
theorem gX7_says_X7_in : GoodIn wsX7_says (wsV RX7 7 RX7 yX7_in wsX7_in) := goodIn_app (goodIn_of _ (by decide +kernel)) ggX7_says_X7_in
set_option maxRecDepth 100000 in
theorem ggX7_says_X7_bounded : GoodIn wsX7_says wsX7_bounded := goodIn_r _ [9, 10, 11, 12, 13, 4, 14, 15, 16, 17, 18, 19, 20, 21, 22, 23, 24, 25, 26, 27, 28, 29, 30, 31, 32, 33, 34, 35, 36, 37, 38, 39, 40, 41, 42, 43, 44, 45, 46, 47, 48, 49, 50, 51, 52, 53, 54, 55, 56, 57, 58, 59, 60, 61, 62, 63, 64, 65, 66, 67, 68, 69, 70] rfl (by decide +kernel)
set_option maxRecDepth 100000 in
theorem gX7_says_X7_bounded : GoodIn wsX7_says (wsV RX7 251 RX7 yX7_bounded wsX7_bounded) := goodIn_app (goodIn_of _ (by decide +kernel)) ggX7_says_X7_bounded
theorem dX7_says_0 : decode cX7_says 0 = .ok (.aload_n 0, 1) := by decide +kernel
theorem dX7_says_1 : decode cX7_says 1 = .ok (.iload_n 1, 1) := by decide +kernel
theorem dX7_says_2 : decode cX7_says 2 = .ok (.iconst 0, 1) := by decide +kernel
theorem dX7_says_3 : decode cX7_says 3 = .ok (.sipush 445, 3) := by decide +kernel
theorem dX7_says_6 : decode cX7_says 6 = .ok (.invokevirtual 7, 3) := by decide +kernel
theorem dX7_says_9 : decode cX7_says 9 = .ok (.ifCond .eq 51, 3) := by decide +kernel
theorem dX7_says_12 : decode cX7_says 12 = .ok (.iload_n 1, 1) := by decide +kernel
theorem dX7_says_13 : decode cX7_says 13 = .ok (.bipush 10, 2) := by decide +kernel
theorem dX7_says_15 : decode cX7_says 15 = .ok (.idiv, 1) := by decide +kernel
theorem dX7_says_16 : decode cX7_says 16 = .ok (.bipush 10, 2) := by decide +kernel
theorem dX7_says_18 : decode cX7_says 18 = .ok (.irem, 1) := by decide +kernel
theorem dX7_says_19 : decode cX7_says 19 = .ok (.iconst 4, 1) := by decide +kernel
theorem dX7_says_20 : decode cX7_says 20 = .ok (.if_icmp .gt 40, 3) := by decide +kernel
theorem dX7_says_23 : decode cX7_says 23 = .ok (.iload_n 1, 1) := by decide +kernel
theorem dX7_says_24 : decode cX7_says 24 = .ok (.bipush 10, 2) := by decide +kernel
theorem dX7_says_26 : decode cX7_says 26 = .ok (.irem, 1) := by decide +kernel
theorem dX7_says_27 : decode cX7_says 27 = .ok (.iconst 5, 1) := by decide +kernel
theorem dX7_says_28 : decode cX7_says 28 = .ok (.if_icmp .gt 32, 3) := by decide +kernel
theorem dX7_says_31 : decode cX7_says 31 = .ok (.aload_n 0, 1) := by decide +kernel
theorem dX7_says_32 : decode cX7_says 32 = .ok (.iload_n 2, 1) := by decide +kernel
theorem dX7_says_33 : decode cX7_says 33 = .ok (.iconst 0, 1) := by decide +kernel
theorem dX7_says_34 : decode cX7_says 34 = .ok (.bipush 35, 2) := by decide +kernel
theorem dX7_says_36 : decode cX7_says 36 = .ok (.invokevirtual 7, 3) := by decide +kernel
theorem dX7_says_39 : decode cX7_says 39 = .ok (.ifCond .eq 21, 3) := by decide +kernel
theorem dX7_says_42 : decode cX7_says 42 = .ok (.iload_n 2, 1) := by decide +kernel
theorem dX7_says_43 : decode cX7_says 43 = .ok (.bipush 10, 2) := by decide +kernel
theorem dX7_says_45 : decode cX7_says 45 = .ok (.irem, 1) := by decide +kernel
theorem dX7_says_46 : decode cX7_says 46 = .ok (.iconst 5, 1) := by decide +kernel
theorem dX7_says_47 : decode cX7_says 47 = .ok (.if_icmp .gt 13, 3) := by decide +kernel
theorem dX7_says_50 : decode cX7_says 50 = .ok (.aload_n 0, 1) := by decide +kernel
theorem dX7_says_51 : decode cX7_says 51 = .ok (.iload_n 3, 1) := by decide +kernel
theorem dX7_says_52 : decode cX7_says 52 = .ok (.iconst 0, 1) := by decide +kernel
theorem dX7_says_53 : decode cX7_says 53 = .ok (.iconst 2, 1) := by decide +kernel
theorem dX7_says_54 : decode cX7_says 54 = .ok (.invokevirtual 7, 3) := by decide +kernel
theorem dX7_says_57 : decode cX7_says 57 = .ok (.ifCond .ne 6, 3) := by decide +kernel
theorem dX7_says_60 : decode cX7_says 60 = .ok (.bipush (-2), 2) := by decide +kernel
theorem dX7_says_62 : decode cX7_says 62 = .ok (.ireturn, 1) := by decide +kernel
theorem dX7_says_63 : decode cX7_says 63 = .ok (.aload_n 0, 1) := by decide +kernel
theorem dX7_says_64 : decode cX7_says 64 = .ok (.iload_n 1, 1) := by decide +kernel
theorem dX7_says_65 : decode cX7_says 65 = .ok (.bipush 100, 2) := by decide +kernel
theorem dX7_says_67 : decode cX7_says 67 = .ok (.idiv, 1) := by decide +kernel
theorem dX7_says_68 : decode cX7_says 68 = .ok (.iload_n 1, 1) := by decide +kernel
theorem dX7_says_69 : decode cX7_says 69 = .ok (.bipush 10, 2) := by decide +kernel
theorem dX7_says_71 : decode cX7_says 71 = .ok (.idiv, 1) := by decide +kernel
theorem dX7_says_72 : decode cX7_says 72 = .ok (.bipush 10, 2) := by decide +kernel
theorem dX7_says_74 : decode cX7_says 74 = .ok (.irem, 1) := by decide +kernel
theorem dX7_says_75 : decode cX7_says 75 = .ok (.iload_n 1, 1) := by decide +kernel
theorem dX7_says_76 : decode cX7_says 76 = .ok (.bipush 10, 2) := by decide +kernel
theorem dX7_says_78 : decode cX7_says 78 = .ok (.irem, 1) := by decide +kernel
theorem dX7_says_79 : decode cX7_says 79 = .ok (.iload_n 2, 1) := by decide +kernel
theorem dX7_says_80 : decode cX7_says 80 = .ok (.bipush 10, 2) := by decide +kernel
theorem dX7_says_82 : decode cX7_says 82 = .ok (.idiv, 1) := by decide +kernel
theorem dX7_says_83 : decode cX7_says 83 = .ok (.iload_n 2, 1) := by decide +kernel
theorem dX7_says_84 : decode cX7_says 84 = .ok (.bipush 10, 2) := by decide +kernel
theorem dX7_says_86 : decode cX7_says 86 = .ok (.irem, 1) := by decide +kernel
theorem dX7_says_87 : decode cX7_says 87 = .ok (.iload_n 3, 1) := by decide +kernel
theorem dX7_says_88 : decode cX7_says 88 = .ok (.invokevirtual 251, 3) := by decide +kernel
theorem dX7_says_91 : decode cX7_says 91 = .ok (.ireturn, 1) := by decide +kernel
set_option maxRecDepth 100000 in
theorem ggX7_layRule_X7_bounded : GoodIn wsX7_layRule wsX7_bounded := goodIn_r _ [8, 9, 10, 11, 12, 7, 13, 14, 15, 16, 17, 18, 19, 20, 21, 22, 23, 24, 25, 26, 27, 28, 29, 30, 31, 32, 33, 34, 35, 36, 37, 38, 39, 40, 41, 42, 43, 44, 45, 46, 47, 48, 49, 50, 51, 52, 53, 54, 55, 56, 57, 58, 59, 60, 61, 62, 63, 64, 65, 66, 67, 68, 69] rfl (by decide +kernel)
set_option maxRecDepth 100000 in
theorem gX7_layRule_X7_bounded : GoodIn wsX7_layRule (wsV RX7 251 RX7 yX7_bounded wsX7_bounded) := goodIn_app (goodIn_of _ (by decide +kernel)) ggX7_layRule_X7_bounded
theorem dX7_layRule_0 : decode cX7_layRule 0 = .ok (.iconst 0, 1) := by decide +kernel
theorem dX7_layRule_1 : decode cX7_layRule 1 = .ok (.istore_n 2, 1) := by decide +kernel
theorem dX7_layRule_2 : decode cX7_layRule 2 = .ok (.iload_n 2, 1) := by decide +kernel
theorem dX7_layRule_3 : decode cX7_layRule 3 = .ok (.iconst 5, 1) := by decide +kernel
theorem dX7_layRule_4 : decode cX7_layRule 4 = .ok (.if_icmp .ge 150, 3) := by decide +kernel
theorem dX7_layRule_7 : decode cX7_layRule 7 = .ok (.iconst 0, 1) := by decide +kernel
theorem dX7_layRule_8 : decode cX7_layRule 8 = .ok (.istore_n 3, 1) := by decide +kernel
theorem dX7_layRule_9 : decode cX7_layRule 9 = .ok (.iload_n 3, 1) := by decide +kernel
theorem dX7_layRule_10 : decode cX7_layRule 10 = .ok (.bipush 6, 2) := by decide +kernel
theorem dX7_layRule_12 : decode cX7_layRule 12 = .ok (.if_icmp .ge 136, 3) := by decide +kernel
theorem dX7_layRule_15 : decode cX7_layRule 15 = .ok (.iconst 0, 1) := by decide +kernel
theorem dX7_layRule_16 : decode cX7_layRule 16 = .ok (.istore 4, 2) := by decide +kernel
theorem dX7_layRule_18 : decode cX7_layRule 18 = .ok (.iload 4, 2) := by decide +kernel
theorem dX7_layRule_20 : decode cX7_layRule 20 = .ok (.iconst 5, 1) := by decide +kernel
theorem dX7_layRule_21 : decode cX7_layRule 21 = .ok (.if_icmp .ge 121, 3) := by decide +kernel
theorem dX7_layRule_24 : decode cX7_layRule 24 = .ok (.aload_n 0, 1) := by decide +kernel
theorem dX7_layRule_25 : decode cX7_layRule 25 = .ok (.getfield 107, 3) := by decide +kernel
theorem dX7_layRule_28 : decode cX7_layRule 28 = .ok (.bipush 30, 2) := by decide +kernel
theorem dX7_layRule_30 : decode cX7_layRule 30 = .ok (.iload_n 2, 1) := by decide +kernel
theorem dX7_layRule_31 : decode cX7_layRule 31 = .ok (.imul, 1) := by decide +kernel
theorem dX7_layRule_32 : decode cX7_layRule 32 = .ok (.iconst 5, 1) := by decide +kernel
theorem dX7_layRule_33 : decode cX7_layRule 33 = .ok (.iload_n 3, 1) := by decide +kernel
theorem dX7_layRule_34 : decode cX7_layRule 34 = .ok (.imul, 1) := by decide +kernel
theorem dX7_layRule_35 : decode cX7_layRule 35 = .ok (.iadd, 1) := by decide +kernel
theorem dX7_layRule_36 : decode cX7_layRule 36 = .ok (.iload 4, 2) := by decide +kernel
theorem dX7_layRule_38 : decode cX7_layRule 38 = .ok (.iadd, 1) := by decide +kernel
theorem dX7_layRule_39 : decode cX7_layRule 39 = .ok (.aload_n 0, 1) := by decide +kernel
theorem dX7_layRule_40 : decode cX7_layRule 40 = .ok (.iload 4, 2) := by decide +kernel
theorem dX7_layRule_42 : decode cX7_layRule 42 = .ok (.iload_n 2, 1) := by decide +kernel
theorem dX7_layRule_43 : decode cX7_layRule 43 = .ok (.iconst 5, 1) := by decide +kernel
theorem dX7_layRule_44 : decode cX7_layRule 44 = .ok (.iload_n 1, 1) := by decide +kernel
theorem dX7_layRule_45 : decode cX7_layRule 45 = .ok (.iload_n 3, 1) := by decide +kernel
theorem dX7_layRule_46 : decode cX7_layRule 46 = .ok (.iconst 2, 1) := by decide +kernel
theorem dX7_layRule_47 : decode cX7_layRule 47 = .ok (.invokevirtual 251, 3) := by decide +kernel
theorem dX7_layRule_50 : decode cX7_layRule 50 = .ok (.iastore, 1) := by decide +kernel
theorem dX7_layRule_51 : decode cX7_layRule 51 = .ok (.iconst 0, 1) := by decide +kernel
theorem dX7_layRule_52 : decode cX7_layRule 52 = .ok (.istore 5, 2) := by decide +kernel
theorem dX7_layRule_54 : decode cX7_layRule 54 = .ok (.iload 5, 2) := by decide +kernel
theorem dX7_layRule_56 : decode cX7_layRule 56 = .ok (.iconst 5, 1) := by decide +kernel
theorem dX7_layRule_57 : decode cX7_layRule 57 = .ok (.if_icmp .ge 79, 3) := by decide +kernel
theorem dX7_layRule_60 : decode cX7_layRule 60 = .ok (.aload_n 0, 1) := by decide +kernel
theorem dX7_layRule_61 : decode cX7_layRule 61 = .ok (.getfield 101, 3) := by decide +kernel
theorem dX7_layRule_64 : decode cX7_layRule 64 = .ok (.sipush 150, 3) := by decide +kernel
theorem dX7_layRule_67 : decode cX7_layRule 67 = .ok (.iload 5, 2) := by decide +kernel
theorem dX7_layRule_69 : decode cX7_layRule 69 = .ok (.imul, 1) := by decide +kernel
theorem dX7_layRule_70 : decode cX7_layRule 70 = .ok (.bipush 30, 2) := by decide +kernel
theorem dX7_layRule_72 : decode cX7_layRule 72 = .ok (.iload_n 2, 1) := by decide +kernel
theorem dX7_layRule_73 : decode cX7_layRule 73 = .ok (.imul, 1) := by decide +kernel
theorem dX7_layRule_74 : decode cX7_layRule 74 = .ok (.iadd, 1) := by decide +kernel
theorem dX7_layRule_75 : decode cX7_layRule 75 = .ok (.iconst 5, 1) := by decide +kernel
theorem dX7_layRule_76 : decode cX7_layRule 76 = .ok (.iload_n 3, 1) := by decide +kernel
theorem dX7_layRule_77 : decode cX7_layRule 77 = .ok (.imul, 1) := by decide +kernel
theorem dX7_layRule_78 : decode cX7_layRule 78 = .ok (.iadd, 1) := by decide +kernel
theorem dX7_layRule_79 : decode cX7_layRule 79 = .ok (.iload 4, 2) := by decide +kernel
theorem dX7_layRule_81 : decode cX7_layRule 81 = .ok (.iadd, 1) := by decide +kernel
theorem dX7_layRule_82 : decode cX7_layRule 82 = .ok (.aload_n 0, 1) := by decide +kernel
theorem dX7_layRule_83 : decode cX7_layRule 83 = .ok (.iload 4, 2) := by decide +kernel
theorem dX7_layRule_85 : decode cX7_layRule 85 = .ok (.iload_n 2, 1) := by decide +kernel
theorem dX7_layRule_86 : decode cX7_layRule 86 = .ok (.iload 5, 2) := by decide +kernel
theorem dX7_layRule_88 : decode cX7_layRule 88 = .ok (.iload_n 1, 1) := by decide +kernel
theorem dX7_layRule_89 : decode cX7_layRule 89 = .ok (.iload_n 3, 1) := by decide +kernel
theorem dX7_layRule_90 : decode cX7_layRule 90 = .ok (.iconst 0, 1) := by decide +kernel
theorem dX7_layRule_91 : decode cX7_layRule 91 = .ok (.invokevirtual 251, 3) := by decide +kernel
theorem dX7_layRule_94 : decode cX7_layRule 94 = .ok (.iastore, 1) := by decide +kernel
theorem dX7_layRule_95 : decode cX7_layRule 95 = .ok (.aload_n 0, 1) := by decide +kernel
theorem dX7_layRule_96 : decode cX7_layRule 96 = .ok (.getfield 104, 3) := by decide +kernel
theorem dX7_layRule_99 : decode cX7_layRule 99 = .ok (.sipush 150, 3) := by decide +kernel
theorem dX7_layRule_102 : decode cX7_layRule 102 = .ok (.iload 5, 2) := by decide +kernel
theorem dX7_layRule_104 : decode cX7_layRule 104 = .ok (.imul, 1) := by decide +kernel
theorem dX7_layRule_105 : decode cX7_layRule 105 = .ok (.bipush 30, 2) := by decide +kernel
theorem dX7_layRule_107 : decode cX7_layRule 107 = .ok (.iload_n 2, 1) := by decide +kernel
theorem dX7_layRule_108 : decode cX7_layRule 108 = .ok (.imul, 1) := by decide +kernel
theorem dX7_layRule_109 : decode cX7_layRule 109 = .ok (.iadd, 1) := by decide +kernel
theorem dX7_layRule_110 : decode cX7_layRule 110 = .ok (.iconst 5, 1) := by decide +kernel
theorem dX7_layRule_111 : decode cX7_layRule 111 = .ok (.iload_n 3, 1) := by decide +kernel
theorem dX7_layRule_112 : decode cX7_layRule 112 = .ok (.imul, 1) := by decide +kernel
theorem dX7_layRule_113 : decode cX7_layRule 113 = .ok (.iadd, 1) := by decide +kernel
theorem dX7_layRule_114 : decode cX7_layRule 114 = .ok (.iload 4, 2) := by decide +kernel
theorem dX7_layRule_116 : decode cX7_layRule 116 = .ok (.iadd, 1) := by decide +kernel
theorem dX7_layRule_117 : decode cX7_layRule 117 = .ok (.aload_n 0, 1) := by decide +kernel
theorem dX7_layRule_118 : decode cX7_layRule 118 = .ok (.iload 4, 2) := by decide +kernel
theorem dX7_layRule_120 : decode cX7_layRule 120 = .ok (.iload_n 2, 1) := by decide +kernel
theorem dX7_layRule_121 : decode cX7_layRule 121 = .ok (.iload 5, 2) := by decide +kernel
theorem dX7_layRule_123 : decode cX7_layRule 123 = .ok (.iload_n 1, 1) := by decide +kernel
theorem dX7_layRule_124 : decode cX7_layRule 124 = .ok (.iload_n 3, 1) := by decide +kernel
theorem dX7_layRule_125 : decode cX7_layRule 125 = .ok (.iconst 1, 1) := by decide +kernel
theorem dX7_layRule_126 : decode cX7_layRule 126 = .ok (.invokevirtual 251, 3) := by decide +kernel
theorem dX7_layRule_129 : decode cX7_layRule 129 = .ok (.iastore, 1) := by decide +kernel
theorem dX7_layRule_130 : decode cX7_layRule 130 = .ok (.iinc 5 1, 3) := by decide +kernel
theorem dX7_layRule_133 : decode cX7_layRule 133 = .ok (.goto (-79), 3) := by decide +kernel
theorem dX7_layRule_136 : decode cX7_layRule 136 = .ok (.iinc 4 1, 3) := by decide +kernel
theorem dX7_layRule_139 : decode cX7_layRule 139 = .ok (.goto (-121), 3) := by decide +kernel
theorem dX7_layRule_142 : decode cX7_layRule 142 = .ok (.iinc 3 1, 3) := by decide +kernel
theorem dX7_layRule_145 : decode cX7_layRule 145 = .ok (.goto (-136), 3) := by decide +kernel
theorem dX7_layRule_148 : decode cX7_layRule 148 = .ok (.iinc 2 1, 3) := by decide +kernel
theorem dX7_layRule_151 : decode cX7_layRule 151 = .ok (.goto (-149), 3) := by decide +kernel
theorem dX7_layRule_154 : decode cX7_layRule 154 = .ok (.return_, 1) := by decide +kernel
theorem dX7_goWeek_0 : decode cX7_goWeek 0 = .ok (.sipush 150, 3) := by decide +kernel
theorem dX7_goWeek_3 : decode cX7_goWeek 3 = .ok (.iload_n 1, 1) := by decide +kernel
theorem dX7_goWeek_4 : decode cX7_goWeek 4 = .ok (.imul, 1) := by decide +kernel
theorem dX7_goWeek_5 : decode cX7_goWeek 5 = .ok (.bipush 30, 2) := by decide +kernel
theorem dX7_goWeek_7 : decode cX7_goWeek 7 = .ok (.aload_n 0, 1) := by decide +kernel
theorem dX7_goWeek_8 : decode cX7_goWeek 8 = .ok (.getfield 114, 3) := by decide +kernel
theorem dX7_goWeek_11 : decode cX7_goWeek 11 = .ok (.iload_n 1, 1) := by decide +kernel
theorem dX7_goWeek_12 : decode cX7_goWeek 12 = .ok (.iaload, 1) := by decide +kernel
theorem dX7_goWeek_13 : decode cX7_goWeek 13 = .ok (.imul, 1) := by decide +kernel
theorem dX7_goWeek_14 : decode cX7_goWeek 14 = .ok (.iadd, 1) := by decide +kernel
theorem dX7_goWeek_15 : decode cX7_goWeek 15 = .ok (.iconst 5, 1) := by decide +kernel
theorem dX7_goWeek_16 : decode cX7_goWeek 16 = .ok (.aload_n 0, 1) := by decide +kernel
theorem dX7_goWeek_17 : decode cX7_goWeek 17 = .ok (.getfield 117, 3) := by decide +kernel
theorem dX7_goWeek_20 : decode cX7_goWeek 20 = .ok (.iload_n 1, 1) := by decide +kernel
theorem dX7_goWeek_21 : decode cX7_goWeek 21 = .ok (.iaload, 1) := by decide +kernel
theorem dX7_goWeek_22 : decode cX7_goWeek 22 = .ok (.imul, 1) := by decide +kernel
theorem dX7_goWeek_23 : decode cX7_goWeek 23 = .ok (.iadd, 1) := by decide +kernel
theorem dX7_goWeek_24 : decode cX7_goWeek 24 = .ok (.istore_n 3, 1) := by decide +kernel
theorem dX7_goWeek_25 : decode cX7_goWeek 25 = .ok (.lconst 0, 1) := by decide +kernel
theorem dX7_goWeek_26 : decode cX7_goWeek 26 = .ok (.lstore 4, 2) := by decide +kernel
theorem dX7_goWeek_28 : decode cX7_goWeek 28 = .ok (.iconst 0, 1) := by decide +kernel
theorem dX7_goWeek_29 : decode cX7_goWeek 29 = .ok (.istore 6, 2) := by decide +kernel
theorem dX7_goWeek_31 : decode cX7_goWeek 31 = .ok (.iload 6, 2) := by decide +kernel
theorem dX7_goWeek_33 : decode cX7_goWeek 33 = .ok (.iconst 5, 1) := by decide +kernel
theorem dX7_goWeek_34 : decode cX7_goWeek 34 = .ok (.if_icmp .ge 104, 3) := by decide +kernel
theorem dX7_goWeek_37 : decode cX7_goWeek 37 = .ok (.aload_n 0, 1) := by decide +kernel
theorem dX7_goWeek_38 : decode cX7_goWeek 38 = .ok (.getfield 110, 3) := by decide +kernel
theorem dX7_goWeek_41 : decode cX7_goWeek 41 = .ok (.iconst 5, 1) := by decide +kernel
theorem dX7_goWeek_42 : decode cX7_goWeek 42 = .ok (.iload_n 1, 1) := by decide +kernel
theorem dX7_goWeek_43 : decode cX7_goWeek 43 = .ok (.imul, 1) := by decide +kernel
theorem dX7_goWeek_44 : decode cX7_goWeek 44 = .ok (.iload 6, 2) := by decide +kernel
theorem dX7_goWeek_46 : decode cX7_goWeek 46 = .ok (.iadd, 1) := by decide +kernel
theorem dX7_goWeek_47 : decode cX7_goWeek 47 = .ok (.laload, 1) := by decide +kernel
theorem dX7_goWeek_48 : decode cX7_goWeek 48 = .ok (.lstore 7, 2) := by decide +kernel
theorem dX7_goWeek_50 : decode cX7_goWeek 50 = .ok (.lload 7, 2) := by decide +kernel
theorem dX7_goWeek_52 : decode cX7_goWeek 52 = .ok (.bipush 10, 2) := by decide +kernel
theorem dX7_goWeek_54 : decode cX7_goWeek 54 = .ok (.aload_n 0, 1) := by decide +kernel
theorem dX7_goWeek_55 : decode cX7_goWeek 55 = .ok (.getfield 101, 3) := by decide +kernel
theorem dX7_goWeek_58 : decode cX7_goWeek 58 = .ok (.iload_n 3, 1) := by decide +kernel
theorem dX7_goWeek_59 : decode cX7_goWeek 59 = .ok (.iload 6, 2) := by decide +kernel
theorem dX7_goWeek_61 : decode cX7_goWeek 61 = .ok (.iadd, 1) := by decide +kernel
theorem dX7_goWeek_62 : decode cX7_goWeek 62 = .ok (.iaload, 1) := by decide +kernel
theorem dX7_goWeek_63 : decode cX7_goWeek 63 = .ok (.isub, 1) := by decide +kernel
theorem dX7_goWeek_64 : decode cX7_goWeek 64 = .ok (.i2l, 1) := by decide +kernel
theorem dX7_goWeek_65 : decode cX7_goWeek 65 = .ok (.lmul, 1) := by decide +kernel
theorem dX7_goWeek_66 : decode cX7_goWeek 66 = .ok (.lload 4, 2) := by decide +kernel
theorem dX7_goWeek_68 : decode cX7_goWeek 68 = .ok (.ladd, 1) := by decide +kernel
theorem dX7_goWeek_69 : decode cX7_goWeek 69 = .ok (.lstore 9, 2) := by decide +kernel
theorem dX7_goWeek_71 : decode cX7_goWeek 71 = .ok (.lload 7, 2) := by decide +kernel
theorem dX7_goWeek_73 : decode cX7_goWeek 73 = .ok (.aload_n 0, 1) := by decide +kernel
theorem dX7_goWeek_74 : decode cX7_goWeek 74 = .ok (.getfield 101, 3) := by decide +kernel
theorem dX7_goWeek_77 : decode cX7_goWeek 77 = .ok (.iload_n 3, 1) := by decide +kernel
theorem dX7_goWeek_78 : decode cX7_goWeek 78 = .ok (.iload 6, 2) := by decide +kernel
theorem dX7_goWeek_80 : decode cX7_goWeek 80 = .ok (.iadd, 1) := by decide +kernel
theorem dX7_goWeek_81 : decode cX7_goWeek 81 = .ok (.iaload, 1) := by decide +kernel
theorem dX7_goWeek_82 : decode cX7_goWeek 82 = .ok (.i2l, 1) := by decide +kernel
theorem dX7_goWeek_83 : decode cX7_goWeek 83 = .ok (.lmul, 1) := by decide +kernel
theorem dX7_goWeek_84 : decode cX7_goWeek 84 = .ok (.lstore 4, 2) := by decide +kernel
theorem dX7_goWeek_86 : decode cX7_goWeek 86 = .ok (.aload_n 0, 1) := by decide +kernel
theorem dX7_goWeek_87 : decode cX7_goWeek 87 = .ok (.getfield 110, 3) := by decide +kernel
theorem dX7_goWeek_90 : decode cX7_goWeek 90 = .ok (.iconst 5, 1) := by decide +kernel
theorem dX7_goWeek_91 : decode cX7_goWeek 91 = .ok (.iload_n 1, 1) := by decide +kernel
theorem dX7_goWeek_92 : decode cX7_goWeek 92 = .ok (.imul, 1) := by decide +kernel
theorem dX7_goWeek_93 : decode cX7_goWeek 93 = .ok (.iconst 5, 1) := by decide +kernel
theorem dX7_goWeek_94 : decode cX7_goWeek 94 = .ok (.iadd, 1) := by decide +kernel
theorem dX7_goWeek_95 : decode cX7_goWeek 95 = .ok (.iload 6, 2) := by decide +kernel
theorem dX7_goWeek_97 : decode cX7_goWeek 97 = .ok (.iadd, 1) := by decide +kernel
theorem dX7_goWeek_98 : decode cX7_goWeek 98 = .ok (.lload 9, 2) := by decide +kernel
theorem dX7_goWeek_100 : decode cX7_goWeek 100 = .ok (.iload_n 2, 1) := by decide +kernel
theorem dX7_goWeek_101 : decode cX7_goWeek 101 = .ok (.iconst 1, 1) := by decide +kernel
theorem dX7_goWeek_102 : decode cX7_goWeek 102 = .ok (.if_icmp .ne 15, 3) := by decide +kernel
theorem dX7_goWeek_105 : decode cX7_goWeek 105 = .ok (.aload_n 0, 1) := by decide +kernel
theorem dX7_goWeek_106 : decode cX7_goWeek 106 = .ok (.getfield 104, 3) := by decide +kernel
theorem dX7_goWeek_109 : decode cX7_goWeek 109 = .ok (.iload_n 3, 1) := by decide +kernel
theorem dX7_goWeek_110 : decode cX7_goWeek 110 = .ok (.iload 6, 2) := by decide +kernel
theorem dX7_goWeek_112 : decode cX7_goWeek 112 = .ok (.iadd, 1) := by decide +kernel
theorem dX7_goWeek_113 : decode cX7_goWeek 113 = .ok (.iaload, 1) := by decide +kernel
theorem dX7_goWeek_114 : decode cX7_goWeek 114 = .ok (.goto 15, 3) := by decide +kernel
theorem dX7_goWeek_117 : decode cX7_goWeek 117 = .ok (.bipush 10, 2) := by decide +kernel
theorem dX7_goWeek_119 : decode cX7_goWeek 119 = .ok (.aload_n 0, 1) := by decide +kernel
theorem dX7_goWeek_120 : decode cX7_goWeek 120 = .ok (.getfield 104, 3) := by decide +kernel
theorem dX7_goWeek_123 : decode cX7_goWeek 123 = .ok (.iload_n 3, 1) := by decide +kernel
theorem dX7_goWeek_124 : decode cX7_goWeek 124 = .ok (.iload 6, 2) := by decide +kernel
theorem dX7_goWeek_126 : decode cX7_goWeek 126 = .ok (.iadd, 1) := by decide +kernel
theorem dX7_goWeek_127 : decode cX7_goWeek 127 = .ok (.iaload, 1) := by decide +kernel
theorem dX7_goWeek_128 : decode cX7_goWeek 128 = .ok (.isub, 1) := by decide +kernel
theorem dX7_goWeek_129 : decode cX7_goWeek 129 = .ok (.i2l, 1) := by decide +kernel
theorem dX7_goWeek_130 : decode cX7_goWeek 130 = .ok (.lmul, 1) := by decide +kernel
theorem dX7_goWeek_131 : decode cX7_goWeek 131 = .ok (.lastore, 1) := by decide +kernel
theorem dX7_goWeek_132 : decode cX7_goWeek 132 = .ok (.iinc 6 1, 3) := by decide +kernel
theorem dX7_goWeek_135 : decode cX7_goWeek 135 = .ok (.goto (-104), 3) := by decide +kernel
theorem dX7_goWeek_138 : decode cX7_goWeek 138 = .ok (.return_, 1) := by decide +kernel
theorem dX7_held_0 : decode cX7_held 0 = .ok (.iload_n 1, 1) := by decide +kernel
theorem dX7_held_1 : decode cX7_held 1 = .ok (.ifCond .ge 7, 3) := by decide +kernel
theorem dX7_held_4 : decode cX7_held 4 = .ok (.iconst 0, 1) := by decide +kernel
theorem dX7_held_5 : decode cX7_held 5 = .ok (.goto 13, 3) := by decide +kernel
theorem dX7_held_8 : decode cX7_held 8 = .ok (.iload_n 1, 1) := by decide +kernel
theorem dX7_held_9 : decode cX7_held 9 = .ok (.iconst 4, 1) := by decide +kernel
theorem dX7_held_10 : decode cX7_held 10 = .ok (.if_icmp .le 7, 3) := by decide +kernel
theorem dX7_held_13 : decode cX7_held 13 = .ok (.iconst 4, 1) := by decide +kernel
theorem dX7_held_14 : decode cX7_held 14 = .ok (.goto 4, 3) := by decide +kernel
theorem dX7_held_17 : decode cX7_held 17 = .ok (.iload_n 1, 1) := by decide +kernel
theorem dX7_held_18 : decode cX7_held 18 = .ok (.ireturn, 1) := by decide +kernel
set_option maxRecDepth 100000 in
theorem ggX7_move_X7_held : GoodIn wsX7_move wsX7_held := goodIn_r _ [8] rfl (by decide +kernel)
set_option maxRecDepth 100000 in
theorem gX7_move_X7_held : GoodIn wsX7_move (wsV RX7 255 RX7 yX7_held wsX7_held) := goodIn_app (goodIn_of _ (by decide +kernel)) ggX7_move_X7_held
theorem dX7_move_0 : decode cX7_move 0 = .ok (.aload_n 0, 1) := by decide +kernel
theorem dX7_move_1 : decode cX7_move 1 = .ok (.getfield 114, 3) := by decide +kernel
theorem dX7_move_4 : decode cX7_move 4 = .ok (.iload_n 1, 1) := by decide +kernel
theorem dX7_move_5 : decode cX7_move 5 = .ok (.iconst 1, 1) := by decide +kernel
theorem dX7_move_6 : decode cX7_move 6 = .ok (.iadd, 1) := by decide +kernel
theorem dX7_move_7 : decode cX7_move 7 = .ok (.aload_n 0, 1) := by decide +kernel
theorem dX7_move_8 : decode cX7_move 8 = .ok (.aload_n 0, 1) := by decide +kernel
theorem dX7_move_9 : decode cX7_move 9 = .ok (.getfield 114, 3) := by decide +kernel
theorem dX7_move_12 : decode cX7_move 12 = .ok (.iload_n 1, 1) := by decide +kernel
theorem dX7_move_13 : decode cX7_move 13 = .ok (.iaload, 1) := by decide +kernel
theorem dX7_move_14 : decode cX7_move 14 = .ok (.iload_n 2, 1) := by decide +kernel
theorem dX7_move_15 : decode cX7_move 15 = .ok (.iadd, 1) := by decide +kernel
theorem dX7_move_16 : decode cX7_move 16 = .ok (.invokevirtual 255, 3) := by decide +kernel
theorem dX7_move_19 : decode cX7_move 19 = .ok (.iastore, 1) := by decide +kernel
theorem dX7_move_20 : decode cX7_move 20 = .ok (.aload_n 0, 1) := by decide +kernel
theorem dX7_move_21 : decode cX7_move 21 = .ok (.getfield 120, 3) := by decide +kernel
theorem dX7_move_24 : decode cX7_move 24 = .ok (.iload_n 1, 1) := by decide +kernel
theorem dX7_move_25 : decode cX7_move 25 = .ok (.iconst 1, 1) := by decide +kernel
theorem dX7_move_26 : decode cX7_move 26 = .ok (.iadd, 1) := by decide +kernel
theorem dX7_move_27 : decode cX7_move 27 = .ok (.aload_n 0, 1) := by decide +kernel
theorem dX7_move_28 : decode cX7_move 28 = .ok (.getfield 114, 3) := by decide +kernel
theorem dX7_move_31 : decode cX7_move 31 = .ok (.iload_n 1, 1) := by decide +kernel
theorem dX7_move_32 : decode cX7_move 32 = .ok (.iconst 1, 1) := by decide +kernel
theorem dX7_move_33 : decode cX7_move 33 = .ok (.iadd, 1) := by decide +kernel
theorem dX7_move_34 : decode cX7_move 34 = .ok (.iaload, 1) := by decide +kernel
theorem dX7_move_35 : decode cX7_move 35 = .ok (.aload_n 0, 1) := by decide +kernel
theorem dX7_move_36 : decode cX7_move 36 = .ok (.getfield 114, 3) := by decide +kernel
theorem dX7_move_39 : decode cX7_move 39 = .ok (.iload_n 1, 1) := by decide +kernel
theorem dX7_move_40 : decode cX7_move 40 = .ok (.iaload, 1) := by decide +kernel
theorem dX7_move_41 : decode cX7_move 41 = .ok (.if_icmp .eq 7, 3) := by decide +kernel
theorem dX7_move_44 : decode cX7_move 44 = .ok (.iconst 1, 1) := by decide +kernel
theorem dX7_move_45 : decode cX7_move 45 = .ok (.goto 4, 3) := by decide +kernel
theorem dX7_move_48 : decode cX7_move 48 = .ok (.iconst 0, 1) := by decide +kernel
theorem dX7_move_49 : decode cX7_move 49 = .ok (.bastore, 1) := by decide +kernel
theorem dX7_move_50 : decode cX7_move 50 = .ok (.aload_n 0, 1) := by decide +kernel
theorem dX7_move_51 : decode cX7_move 51 = .ok (.getfield 117, 3) := by decide +kernel
theorem dX7_move_54 : decode cX7_move 54 = .ok (.iload_n 1, 1) := by decide +kernel
theorem dX7_move_55 : decode cX7_move 55 = .ok (.iconst 1, 1) := by decide +kernel
theorem dX7_move_56 : decode cX7_move 56 = .ok (.iadd, 1) := by decide +kernel
theorem dX7_move_57 : decode cX7_move 57 = .ok (.aload_n 0, 1) := by decide +kernel
theorem dX7_move_58 : decode cX7_move 58 = .ok (.getfield 117, 3) := by decide +kernel
theorem dX7_move_61 : decode cX7_move 61 = .ok (.iload_n 1, 1) := by decide +kernel
theorem dX7_move_62 : decode cX7_move 62 = .ok (.iaload, 1) := by decide +kernel
theorem dX7_move_63 : decode cX7_move 63 = .ok (.aload_n 0, 1) := by decide +kernel
theorem dX7_move_64 : decode cX7_move 64 = .ok (.getfield 120, 3) := by decide +kernel
theorem dX7_move_67 : decode cX7_move 67 = .ok (.iload_n 1, 1) := by decide +kernel
theorem dX7_move_68 : decode cX7_move 68 = .ok (.iconst 1, 1) := by decide +kernel
theorem dX7_move_69 : decode cX7_move 69 = .ok (.iadd, 1) := by decide +kernel
theorem dX7_move_70 : decode cX7_move 70 = .ok (.baload, 1) := by decide +kernel
theorem dX7_move_71 : decode cX7_move 71 = .ok (.ifCond .eq 7, 3) := by decide +kernel
theorem dX7_move_74 : decode cX7_move 74 = .ok (.iconst 1, 1) := by decide +kernel
theorem dX7_move_75 : decode cX7_move 75 = .ok (.goto 4, 3) := by decide +kernel
theorem dX7_move_78 : decode cX7_move 78 = .ok (.iconst 0, 1) := by decide +kernel
theorem dX7_move_79 : decode cX7_move 79 = .ok (.iadd, 1) := by decide +kernel
theorem dX7_move_80 : decode cX7_move 80 = .ok (.iastore, 1) := by decide +kernel
theorem dX7_move_81 : decode cX7_move 81 = .ok (.return_, 1) := by decide +kernel
theorem dX7_sumRow_0 : decode cX7_sumRow 0 = .ok (.lconst 0, 1) := by decide +kernel
theorem dX7_sumRow_1 : decode cX7_sumRow 1 = .ok (.lstore_n 2, 1) := by decide +kernel
theorem dX7_sumRow_2 : decode cX7_sumRow 2 = .ok (.iconst 0, 1) := by decide +kernel
theorem dX7_sumRow_3 : decode cX7_sumRow 3 = .ok (.istore 4, 2) := by decide +kernel
theorem dX7_sumRow_5 : decode cX7_sumRow 5 = .ok (.iload 4, 2) := by decide +kernel
theorem dX7_sumRow_7 : decode cX7_sumRow 7 = .ok (.iconst 5, 1) := by decide +kernel
theorem dX7_sumRow_8 : decode cX7_sumRow 8 = .ok (.if_icmp .ge 23, 3) := by decide +kernel
theorem dX7_sumRow_11 : decode cX7_sumRow 11 = .ok (.lload_n 2, 1) := by decide +kernel
theorem dX7_sumRow_12 : decode cX7_sumRow 12 = .ok (.aload_n 0, 1) := by decide +kernel
theorem dX7_sumRow_13 : decode cX7_sumRow 13 = .ok (.getfield 110, 3) := by decide +kernel
theorem dX7_sumRow_16 : decode cX7_sumRow 16 = .ok (.iconst 5, 1) := by decide +kernel
theorem dX7_sumRow_17 : decode cX7_sumRow 17 = .ok (.iload_n 1, 1) := by decide +kernel
theorem dX7_sumRow_18 : decode cX7_sumRow 18 = .ok (.imul, 1) := by decide +kernel
theorem dX7_sumRow_19 : decode cX7_sumRow 19 = .ok (.iload 4, 2) := by decide +kernel
theorem dX7_sumRow_21 : decode cX7_sumRow 21 = .ok (.iadd, 1) := by decide +kernel
theorem dX7_sumRow_22 : decode cX7_sumRow 22 = .ok (.laload, 1) := by decide +kernel
theorem dX7_sumRow_23 : decode cX7_sumRow 23 = .ok (.ladd, 1) := by decide +kernel
theorem dX7_sumRow_24 : decode cX7_sumRow 24 = .ok (.lstore_n 2, 1) := by decide +kernel
theorem dX7_sumRow_25 : decode cX7_sumRow 25 = .ok (.iinc 4 1, 3) := by decide +kernel
theorem dX7_sumRow_28 : decode cX7_sumRow 28 = .ok (.goto (-23), 3) := by decide +kernel
theorem dX7_sumRow_31 : decode cX7_sumRow 31 = .ok (.lload_n 2, 1) := by decide +kernel
theorem dX7_sumRow_32 : decode cX7_sumRow 32 = .ok (.lreturn, 1) := by decide +kernel
theorem dX7_sumFrom_0 : decode cX7_sumFrom 0 = .ok (.lconst 0, 1) := by decide +kernel
theorem dX7_sumFrom_1 : decode cX7_sumFrom 1 = .ok (.lstore_n 3, 1) := by decide +kernel
theorem dX7_sumFrom_2 : decode cX7_sumFrom 2 = .ok (.iload_n 2, 1) := by decide +kernel
theorem dX7_sumFrom_3 : decode cX7_sumFrom 3 = .ok (.istore 5, 2) := by decide +kernel
theorem dX7_sumFrom_5 : decode cX7_sumFrom 5 = .ok (.iload 5, 2) := by decide +kernel
theorem dX7_sumFrom_7 : decode cX7_sumFrom 7 = .ok (.iconst 5, 1) := by decide +kernel
theorem dX7_sumFrom_8 : decode cX7_sumFrom 8 = .ok (.if_icmp .ge 23, 3) := by decide +kernel
theorem dX7_sumFrom_11 : decode cX7_sumFrom 11 = .ok (.lload_n 3, 1) := by decide +kernel
theorem dX7_sumFrom_12 : decode cX7_sumFrom 12 = .ok (.aload_n 0, 1) := by decide +kernel
theorem dX7_sumFrom_13 : decode cX7_sumFrom 13 = .ok (.getfield 110, 3) := by decide +kernel
theorem dX7_sumFrom_16 : decode cX7_sumFrom 16 = .ok (.iconst 5, 1) := by decide +kernel
theorem dX7_sumFrom_17 : decode cX7_sumFrom 17 = .ok (.iload_n 1, 1) := by decide +kernel
theorem dX7_sumFrom_18 : decode cX7_sumFrom 18 = .ok (.imul, 1) := by decide +kernel
theorem dX7_sumFrom_19 : decode cX7_sumFrom 19 = .ok (.iload 5, 2) := by decide +kernel
theorem dX7_sumFrom_21 : decode cX7_sumFrom 21 = .ok (.iadd, 1) := by decide +kernel
theorem dX7_sumFrom_22 : decode cX7_sumFrom 22 = .ok (.laload, 1) := by decide +kernel
theorem dX7_sumFrom_23 : decode cX7_sumFrom 23 = .ok (.ladd, 1) := by decide +kernel
theorem dX7_sumFrom_24 : decode cX7_sumFrom 24 = .ok (.lstore_n 3, 1) := by decide +kernel
theorem dX7_sumFrom_25 : decode cX7_sumFrom 25 = .ok (.iinc 5 1, 3) := by decide +kernel
theorem dX7_sumFrom_28 : decode cX7_sumFrom 28 = .ok (.goto (-23), 3) := by decide +kernel
theorem dX7_sumFrom_31 : decode cX7_sumFrom 31 = .ok (.lload_n 3, 1) := by decide +kernel
theorem dX7_sumFrom_32 : decode cX7_sumFrom 32 = .ok (.lreturn, 1) := by decide +kernel
set_option maxRecDepth 100000 in
theorem ggX7_moveOf_X7_sumRow : GoodIn wsX7_moveOf wsX7_sumRow := goodIn_r _ [9, 10, 15, 16, 17, 18, 19, 20, 21, 22, 23, 24, 25, 26, 27, 28, 29, 30, 31, 32, 33, 34, 35, 36, 37, 38, 39, 40, 41, 42, 43, 44, 45, 46, 47, 48, 49, 50, 51, 52, 53, 54, 55, 56, 57, 58, 59, 60, 61] rfl (by decide +kernel)
set_option maxRecDepth 100000 in
theorem gX7_moveOf_X7_sumRow : GoodIn wsX7_moveOf (wsV RX7 258 RX7 yX7_sumRow wsX7_sumRow) := goodIn_app (goodIn_of _ (by decide +kernel)) ggX7_moveOf_X7_sumRow
set_option maxRecDepth 100000 in
theorem ggX7_moveOf_X7_sumFrom : GoodIn wsX7_moveOf wsX7_sumFrom := goodIn_r _ [14, 10, 15, 16, 17, 18, 19, 20, 21, 22, 23, 24, 25, 26, 27, 28, 29, 30, 31, 32, 33, 34, 35, 36, 37, 38, 39, 40, 41, 42, 43, 44, 45, 46, 47, 48, 49, 50, 51, 52, 53, 54, 55, 56, 57, 58, 59, 60, 61] rfl (by decide +kernel)
set_option maxRecDepth 100000 in
theorem gX7_moveOf_X7_sumFrom : GoodIn wsX7_moveOf (wsV RX7 262 RX7 yX7_sumFrom wsX7_sumFrom) := goodIn_app (goodIn_of _ (by decide +kernel)) ggX7_moveOf_X7_sumFrom
theorem dX7_moveOf_0 : decode cX7_moveOf 0 = .ok (.iload 4, 2) := by decide +kernel
theorem dX7_moveOf_2 : decode cX7_moveOf 2 = .ok (.iload_n 3, 1) := by decide +kernel
theorem dX7_moveOf_3 : decode cX7_moveOf 3 = .ok (.ishr, 1) := by decide +kernel
theorem dX7_moveOf_4 : decode cX7_moveOf 4 = .ok (.iconst 1, 1) := by decide +kernel
theorem dX7_moveOf_5 : decode cX7_moveOf 5 = .ok (.iand, 1) := by decide +kernel
theorem dX7_moveOf_6 : decode cX7_moveOf 6 = .ok (.iconst 1, 1) := by decide +kernel
theorem dX7_moveOf_7 : decode cX7_moveOf 7 = .ok (.if_icmp .ne 7, 3) := by decide +kernel
theorem dX7_moveOf_10 : decode cX7_moveOf 10 = .ok (.iconst 1, 1) := by decide +kernel
theorem dX7_moveOf_11 : decode cX7_moveOf 11 = .ok (.goto 4, 3) := by decide +kernel
theorem dX7_moveOf_14 : decode cX7_moveOf 14 = .ok (.iconst 0, 1) := by decide +kernel
theorem dX7_moveOf_15 : decode cX7_moveOf 15 = .ok (.istore 5, 2) := by decide +kernel
theorem dX7_moveOf_17 : decode cX7_moveOf 17 = .ok (.iload_n 3, 1) := by decide +kernel
theorem dX7_moveOf_18 : decode cX7_moveOf 18 = .ok (.ifCond .le 19, 3) := by decide +kernel
theorem dX7_moveOf_21 : decode cX7_moveOf 21 = .ok (.iload 4, 2) := by decide +kernel
theorem dX7_moveOf_23 : decode cX7_moveOf 23 = .ok (.iload_n 3, 1) := by decide +kernel
theorem dX7_moveOf_24 : decode cX7_moveOf 24 = .ok (.iconst 1, 1) := by decide +kernel
theorem dX7_moveOf_25 : decode cX7_moveOf 25 = .ok (.isub, 1) := by decide +kernel
theorem dX7_moveOf_26 : decode cX7_moveOf 26 = .ok (.ishr, 1) := by decide +kernel
theorem dX7_moveOf_27 : decode cX7_moveOf 27 = .ok (.iconst 1, 1) := by decide +kernel
theorem dX7_moveOf_28 : decode cX7_moveOf 28 = .ok (.iand, 1) := by decide +kernel
theorem dX7_moveOf_29 : decode cX7_moveOf 29 = .ok (.iconst 1, 1) := by decide +kernel
theorem dX7_moveOf_30 : decode cX7_moveOf 30 = .ok (.if_icmp .ne 7, 3) := by decide +kernel
theorem dX7_moveOf_33 : decode cX7_moveOf 33 = .ok (.iconst 1, 1) := by decide +kernel
theorem dX7_moveOf_34 : decode cX7_moveOf 34 = .ok (.goto 4, 3) := by decide +kernel
theorem dX7_moveOf_37 : decode cX7_moveOf 37 = .ok (.iconst 0, 1) := by decide +kernel
theorem dX7_moveOf_38 : decode cX7_moveOf 38 = .ok (.istore 6, 2) := by decide +kernel
theorem dX7_moveOf_40 : decode cX7_moveOf 40 = .ok (.iload_n 1, 1) := by decide +kernel
theorem dX7_moveOf_41 : decode cX7_moveOf 41 = .ok (.tableswitch 132 0 4 #[35, 46, 114, 132, 71], 35) := by decide +kernel
theorem dX7_moveOf_76 : decode cX7_moveOf 76 = .ok (.iload 5, 2) := by decide +kernel
theorem dX7_moveOf_78 : decode cX7_moveOf 78 = .ok (.ifCond .eq 7, 3) := by decide +kernel
theorem dX7_moveOf_81 : decode cX7_moveOf 81 = .ok (.iconst 1, 1) := by decide +kernel
theorem dX7_moveOf_82 : decode cX7_moveOf 82 = .ok (.goto 4, 3) := by decide +kernel
theorem dX7_moveOf_85 : decode cX7_moveOf 85 = .ok (.iconst 0, 1) := by decide +kernel
theorem dX7_moveOf_86 : decode cX7_moveOf 86 = .ok (.ireturn, 1) := by decide +kernel
theorem dX7_moveOf_87 : decode cX7_moveOf 87 = .ok (.iload 5, 2) := by decide +kernel
theorem dX7_moveOf_89 : decode cX7_moveOf 89 = .ok (.ifCond .eq 21, 3) := by decide +kernel
theorem dX7_moveOf_92 : decode cX7_moveOf 92 = .ok (.iload 6, 2) := by decide +kernel
theorem dX7_moveOf_94 : decode cX7_moveOf 94 = .ok (.ifCond .eq 16, 3) := by decide +kernel
theorem dX7_moveOf_97 : decode cX7_moveOf 97 = .ok (.aload_n 0, 1) := by decide +kernel
theorem dX7_moveOf_98 : decode cX7_moveOf 98 = .ok (.getfield 120, 3) := by decide +kernel
theorem dX7_moveOf_101 : decode cX7_moveOf 101 = .ok (.iload_n 3, 1) := by decide +kernel
theorem dX7_moveOf_102 : decode cX7_moveOf 102 = .ok (.baload, 1) := by decide +kernel
theorem dX7_moveOf_103 : decode cX7_moveOf 103 = .ok (.ifCond .ne 7, 3) := by decide +kernel
theorem dX7_moveOf_106 : decode cX7_moveOf 106 = .ok (.iconst 1, 1) := by decide +kernel
theorem dX7_moveOf_107 : decode cX7_moveOf 107 = .ok (.goto 4, 3) := by decide +kernel
theorem dX7_moveOf_110 : decode cX7_moveOf 110 = .ok (.iconst 0, 1) := by decide +kernel
theorem dX7_moveOf_111 : decode cX7_moveOf 111 = .ok (.ireturn, 1) := by decide +kernel
theorem dX7_moveOf_112 : decode cX7_moveOf 112 = .ok (.iload 5, 2) := by decide +kernel
theorem dX7_moveOf_114 : decode cX7_moveOf 114 = .ok (.ifCond .eq 21, 3) := by decide +kernel
theorem dX7_moveOf_117 : decode cX7_moveOf 117 = .ok (.iload 6, 2) := by decide +kernel
theorem dX7_moveOf_119 : decode cX7_moveOf 119 = .ok (.ifCond .eq 16, 3) := by decide +kernel
theorem dX7_moveOf_122 : decode cX7_moveOf 122 = .ok (.aload_n 0, 1) := by decide +kernel
theorem dX7_moveOf_123 : decode cX7_moveOf 123 = .ok (.getfield 120, 3) := by decide +kernel
theorem dX7_moveOf_126 : decode cX7_moveOf 126 = .ok (.iload_n 3, 1) := by decide +kernel
theorem dX7_moveOf_127 : decode cX7_moveOf 127 = .ok (.baload, 1) := by decide +kernel
theorem dX7_moveOf_128 : decode cX7_moveOf 128 = .ok (.ifCond .ne 7, 3) := by decide +kernel
theorem dX7_moveOf_131 : decode cX7_moveOf 131 = .ok (.iconst 1, 1) := by decide +kernel
theorem dX7_moveOf_132 : decode cX7_moveOf 132 = .ok (.goto 22, 3) := by decide +kernel
theorem dX7_moveOf_135 : decode cX7_moveOf 135 = .ok (.iload 5, 2) := by decide +kernel
theorem dX7_moveOf_137 : decode cX7_moveOf 137 = .ok (.ifCond .ne 16, 3) := by decide +kernel
theorem dX7_moveOf_140 : decode cX7_moveOf 140 = .ok (.iload 6, 2) := by decide +kernel
theorem dX7_moveOf_142 : decode cX7_moveOf 142 = .ok (.ifCond .ne 11, 3) := by decide +kernel
theorem dX7_moveOf_145 : decode cX7_moveOf 145 = .ok (.iload_n 3, 1) := by decide +kernel
theorem dX7_moveOf_146 : decode cX7_moveOf 146 = .ok (.ifCond .le 7, 3) := by decide +kernel
theorem dX7_moveOf_149 : decode cX7_moveOf 149 = .ok (.iconst (-1), 1) := by decide +kernel
theorem dX7_moveOf_150 : decode cX7_moveOf 150 = .ok (.goto 4, 3) := by decide +kernel
theorem dX7_moveOf_153 : decode cX7_moveOf 153 = .ok (.iconst 0, 1) := by decide +kernel
theorem dX7_moveOf_154 : decode cX7_moveOf 154 = .ok (.ireturn, 1) := by decide +kernel
theorem dX7_moveOf_155 : decode cX7_moveOf 155 = .ok (.iload_n 2, 1) := by decide +kernel
theorem dX7_moveOf_156 : decode cX7_moveOf 156 = .ok (.ifCond .le 15, 3) := by decide +kernel
theorem dX7_moveOf_159 : decode cX7_moveOf 159 = .ok (.iload_n 3, 1) := by decide +kernel
theorem dX7_moveOf_160 : decode cX7_moveOf 160 = .ok (.iconst 1, 1) := by decide +kernel
theorem dX7_moveOf_161 : decode cX7_moveOf 161 = .ok (.iadd, 1) := by decide +kernel
theorem dX7_moveOf_162 : decode cX7_moveOf 162 = .ok (.iload_n 2, 1) := by decide +kernel
theorem dX7_moveOf_163 : decode cX7_moveOf 163 = .ok (.irem, 1) := by decide +kernel
theorem dX7_moveOf_164 : decode cX7_moveOf 164 = .ok (.ifCond .ne 7, 3) := by decide +kernel
theorem dX7_moveOf_167 : decode cX7_moveOf 167 = .ok (.iconst 1, 1) := by decide +kernel
theorem dX7_moveOf_168 : decode cX7_moveOf 168 = .ok (.goto 4, 3) := by decide +kernel
theorem dX7_moveOf_171 : decode cX7_moveOf 171 = .ok (.iconst 0, 1) := by decide +kernel
theorem dX7_moveOf_172 : decode cX7_moveOf 172 = .ok (.ireturn, 1) := by decide +kernel
theorem dX7_moveOf_173 : decode cX7_moveOf 173 = .ok (.aload_n 0, 1) := by decide +kernel
theorem dX7_moveOf_174 : decode cX7_moveOf 174 = .ok (.iload_n 3, 1) := by decide +kernel
theorem dX7_moveOf_175 : decode cX7_moveOf 175 = .ok (.iconst 1, 1) := by decide +kernel
theorem dX7_moveOf_176 : decode cX7_moveOf 176 = .ok (.iadd, 1) := by decide +kernel
theorem dX7_moveOf_177 : decode cX7_moveOf 177 = .ok (.invokevirtual 258, 3) := by decide +kernel
theorem dX7_moveOf_180 : decode cX7_moveOf 180 = .ok (.lstore 7, 2) := by decide +kernel
theorem dX7_moveOf_182 : decode cX7_moveOf 182 = .ok (.aload_n 0, 1) := by decide +kernel
theorem dX7_moveOf_183 : decode cX7_moveOf 183 = .ok (.iload_n 3, 1) := by decide +kernel
theorem dX7_moveOf_184 : decode cX7_moveOf 184 = .ok (.iconst 1, 1) := by decide +kernel
theorem dX7_moveOf_185 : decode cX7_moveOf 185 = .ok (.iadd, 1) := by decide +kernel
theorem dX7_moveOf_186 : decode cX7_moveOf 186 = .ok (.aload_n 0, 1) := by decide +kernel
theorem dX7_moveOf_187 : decode cX7_moveOf 187 = .ok (.getfield 114, 3) := by decide +kernel
theorem dX7_moveOf_190 : decode cX7_moveOf 190 = .ok (.iload_n 3, 1) := by decide +kernel
theorem dX7_moveOf_191 : decode cX7_moveOf 191 = .ok (.iaload, 1) := by decide +kernel
theorem dX7_moveOf_192 : decode cX7_moveOf 192 = .ok (.invokevirtual 262, 3) := by decide +kernel
theorem dX7_moveOf_195 : decode cX7_moveOf 195 = .ok (.lstore 9, 2) := by decide +kernel
theorem dX7_moveOf_197 : decode cX7_moveOf 197 = .ok (.lload 7, 2) := by decide +kernel
theorem dX7_moveOf_199 : decode cX7_moveOf 199 = .ok (.lconst 0, 1) := by decide +kernel
theorem dX7_moveOf_200 : decode cX7_moveOf 200 = .ok (.lcmp, 1) := by decide +kernel
theorem dX7_moveOf_201 : decode cX7_moveOf 201 = .ok (.ifCond .ne 5, 3) := by decide +kernel
theorem dX7_moveOf_204 : decode cX7_moveOf 204 = .ok (.iconst 0, 1) := by decide +kernel
theorem dX7_moveOf_205 : decode cX7_moveOf 205 = .ok (.ireturn, 1) := by decide +kernel
theorem dX7_moveOf_206 : decode cX7_moveOf 206 = .ok (.ldc2_w 266, 3) := by decide +kernel
theorem dX7_moveOf_209 : decode cX7_moveOf 209 = .ok (.lload 9, 2) := by decide +kernel
theorem dX7_moveOf_211 : decode cX7_moveOf 211 = .ok (.lmul, 1) := by decide +kernel
theorem dX7_moveOf_212 : decode cX7_moveOf 212 = .ok (.iload_n 2, 1) := by decide +kernel
theorem dX7_moveOf_213 : decode cX7_moveOf 213 = .ok (.i2l, 1) := by decide +kernel
theorem dX7_moveOf_214 : decode cX7_moveOf 214 = .ok (.lload 7, 2) := by decide +kernel
theorem dX7_moveOf_216 : decode cX7_moveOf 216 = .ok (.lmul, 1) := by decide +kernel
theorem dX7_moveOf_217 : decode cX7_moveOf 217 = .ok (.lcmp, 1) := by decide +kernel
theorem dX7_moveOf_218 : decode cX7_moveOf 218 = .ok (.ifCond .lt 5, 3) := by decide +kernel
theorem dX7_moveOf_221 : decode cX7_moveOf 221 = .ok (.iconst 1, 1) := by decide +kernel
theorem dX7_moveOf_222 : decode cX7_moveOf 222 = .ok (.ireturn, 1) := by decide +kernel
theorem dX7_moveOf_223 : decode cX7_moveOf 223 = .ok (.iload_n 1, 1) := by decide +kernel
theorem dX7_moveOf_224 : decode cX7_moveOf 224 = .ok (.iconst 5, 1) := by decide +kernel
theorem dX7_moveOf_225 : decode cX7_moveOf 225 = .ok (.if_icmp .ne 22, 3) := by decide +kernel
theorem dX7_moveOf_228 : decode cX7_moveOf 228 = .ok (.ldc2_w 268, 3) := by decide +kernel
theorem dX7_moveOf_231 : decode cX7_moveOf 231 = .ok (.lload 9, 2) := by decide +kernel
theorem dX7_moveOf_233 : decode cX7_moveOf 233 = .ok (.lmul, 1) := by decide +kernel
theorem dX7_moveOf_234 : decode cX7_moveOf 234 = .ok (.iload_n 2, 1) := by decide +kernel
theorem dX7_moveOf_235 : decode cX7_moveOf 235 = .ok (.i2l, 1) := by decide +kernel
theorem dX7_moveOf_236 : decode cX7_moveOf 236 = .ok (.lload 7, 2) := by decide +kernel
theorem dX7_moveOf_238 : decode cX7_moveOf 238 = .ok (.lmul, 1) := by decide +kernel
theorem dX7_moveOf_239 : decode cX7_moveOf 239 = .ok (.lcmp, 1) := by decide +kernel
theorem dX7_moveOf_240 : decode cX7_moveOf 240 = .ok (.ifCond .ge 7, 3) := by decide +kernel
theorem dX7_moveOf_243 : decode cX7_moveOf 243 = .ok (.iconst (-1), 1) := by decide +kernel
theorem dX7_moveOf_244 : decode cX7_moveOf 244 = .ok (.goto 4, 3) := by decide +kernel
theorem dX7_moveOf_247 : decode cX7_moveOf 247 = .ok (.iconst 0, 1) := by decide +kernel
theorem dX7_moveOf_248 : decode cX7_moveOf 248 = .ok (.ireturn, 1) := by decide +kernel
theorem dX7_begin_0 : decode cX7_begin 0 = .ok (.iconst 0, 1) := by decide +kernel
theorem dX7_begin_1 : decode cX7_begin 1 = .ok (.istore_n 3, 1) := by decide +kernel
theorem dX7_begin_2 : decode cX7_begin 2 = .ok (.iload_n 3, 1) := by decide +kernel
theorem dX7_begin_3 : decode cX7_begin 3 = .ok (.iconst 5, 1) := by decide +kernel
theorem dX7_begin_4 : decode cX7_begin 4 = .ok (.if_icmp .ge 26, 3) := by decide +kernel
theorem dX7_begin_7 : decode cX7_begin 7 = .ok (.aload_n 0, 1) := by decide +kernel
theorem dX7_begin_8 : decode cX7_begin 8 = .ok (.getfield 110, 3) := by decide +kernel
theorem dX7_begin_11 : decode cX7_begin 11 = .ok (.iload_n 3, 1) := by decide +kernel
theorem dX7_begin_12 : decode cX7_begin 12 = .ok (.aload_n 0, 1) := by decide +kernel
theorem dX7_begin_13 : decode cX7_begin 13 = .ok (.getfield 24, 3) := by decide +kernel
theorem dX7_begin_16 : decode cX7_begin 16 = .ok (.iconst 5, 1) := by decide +kernel
theorem dX7_begin_17 : decode cX7_begin 17 = .ok (.iload_n 1, 1) := by decide +kernel
theorem dX7_begin_18 : decode cX7_begin 18 = .ok (.imul, 1) := by decide +kernel
theorem dX7_begin_19 : decode cX7_begin 19 = .ok (.iload_n 3, 1) := by decide +kernel
theorem dX7_begin_20 : decode cX7_begin 20 = .ok (.iadd, 1) := by decide +kernel
theorem dX7_begin_21 : decode cX7_begin 21 = .ok (.iaload, 1) := by decide +kernel
theorem dX7_begin_22 : decode cX7_begin 22 = .ok (.i2l, 1) := by decide +kernel
theorem dX7_begin_23 : decode cX7_begin 23 = .ok (.lastore, 1) := by decide +kernel
theorem dX7_begin_24 : decode cX7_begin 24 = .ok (.iinc 3 1, 3) := by decide +kernel
theorem dX7_begin_27 : decode cX7_begin 27 = .ok (.goto (-25), 3) := by decide +kernel
theorem dX7_begin_30 : decode cX7_begin 30 = .ok (.aload_n 0, 1) := by decide +kernel
theorem dX7_begin_31 : decode cX7_begin 31 = .ok (.getfield 114, 3) := by decide +kernel
theorem dX7_begin_34 : decode cX7_begin 34 = .ok (.iconst 0, 1) := by decide +kernel
theorem dX7_begin_35 : decode cX7_begin 35 = .ok (.iload_n 2, 1) := by decide +kernel
theorem dX7_begin_36 : decode cX7_begin 36 = .ok (.iastore, 1) := by decide +kernel
theorem dX7_begin_37 : decode cX7_begin 37 = .ok (.aload_n 0, 1) := by decide +kernel
theorem dX7_begin_38 : decode cX7_begin 38 = .ok (.getfield 117, 3) := by decide +kernel
theorem dX7_begin_41 : decode cX7_begin 41 = .ok (.iconst 0, 1) := by decide +kernel
theorem dX7_begin_42 : decode cX7_begin 42 = .ok (.iconst 0, 1) := by decide +kernel
theorem dX7_begin_43 : decode cX7_begin 43 = .ok (.iastore, 1) := by decide +kernel
theorem dX7_begin_44 : decode cX7_begin 44 = .ok (.aload_n 0, 1) := by decide +kernel
theorem dX7_begin_45 : decode cX7_begin 45 = .ok (.getfield 120, 3) := by decide +kernel
theorem dX7_begin_48 : decode cX7_begin 48 = .ok (.iconst 0, 1) := by decide +kernel
theorem dX7_begin_49 : decode cX7_begin 49 = .ok (.iconst 0, 1) := by decide +kernel
theorem dX7_begin_50 : decode cX7_begin 50 = .ok (.bastore, 1) := by decide +kernel
theorem dX7_begin_51 : decode cX7_begin 51 = .ok (.aload_n 0, 1) := by decide +kernel
theorem dX7_begin_52 : decode cX7_begin 52 = .ok (.iconst 0, 1) := by decide +kernel
theorem dX7_begin_53 : decode cX7_begin 53 = .ok (.putfield 124, 3) := by decide +kernel
theorem dX7_begin_56 : decode cX7_begin 56 = .ok (.return_, 1) := by decide +kernel
set_option maxRecDepth 100000 in
theorem ggX7_go_X7_begin : GoodIn wsX7_go wsX7_begin := goodIn_r _ [6, 7, 8, 9, 10, 11, 1, 40, 41, 42, 43, 44, 45, 46, 47, 48, 49, 50, 51, 52, 53, 54, 55, 56, 57, 58, 59, 60, 61, 62, 63, 64, 65, 66, 67, 68, 69, 70, 71, 72, 73, 74, 75, 76, 77, 78, 79, 80, 81, 82, 83, 84, 85, 86] rfl (by decide +kernel)
set_option maxRecDepth 100000 in
theorem gX7_go_X7_begin : GoodIn wsX7_go (wsV RX7 270 RX7 yX7_begin wsX7_begin) := goodIn_app (goodIn_of _ (by decide +kernel)) ggX7_go_X7_begin
set_option maxRecDepth 100000 in
theorem ggX7_go_X7_goWeek : GoodIn wsX7_go wsX7_goWeek := goodIn_r _ [15, 9, 10, 7, 16, 17, 40, 41, 42, 43, 44, 45, 46, 47, 48, 49, 50, 51, 52, 53, 54, 55, 56, 57, 58, 59, 60, 61, 62, 63, 64, 65, 66, 67, 68, 69, 70, 71, 72, 73, 74, 75, 76, 77, 78, 79, 80, 81, 82, 83, 84, 85, 86] rfl (by decide +kernel)
set_option maxRecDepth 100000 in
theorem gX7_go_X7_goWeek : GoodIn wsX7_go (wsV RX7 273 RX7 yX7_goWeek wsX7_goWeek) := goodIn_app (goodIn_of _ (by decide +kernel)) ggX7_go_X7_goWeek
set_option maxRecDepth 100000 in
theorem ggX7_go_X7_moveOf : GoodIn wsX7_go wsX7_moveOf := goodIn_r _ [21, 11, 9, 22, 23, 24, 25, 26, 5, 27, 7, 28, 29, 30, 31, 40, 41, 42, 43, 44, 45, 46, 47, 48, 49, 50, 51, 52, 53, 54, 55, 56, 57, 58, 59, 60, 61, 62, 63, 64, 65, 66, 67, 68, 69, 70, 71, 72, 73, 74, 75, 76, 77, 78, 79, 80, 81, 82, 83, 84, 85, 86] rfl (by decide +kernel)
set_option maxRecDepth 100000 in
theorem gX7_go_X7_moveOf : GoodIn wsX7_go (wsV RX7 276 RX7 yX7_moveOf wsX7_moveOf) := goodIn_app (goodIn_of _ (by decide +kernel)) ggX7_go_X7_moveOf
set_option maxRecDepth 100000 in
theorem ggX7_go_X7_move : GoodIn wsX7_go wsX7_move := goodIn_r _ [35, 9, 11, 10, 36, 37, 38, 5, 39, 40, 41, 42, 43, 44, 45, 46, 47, 48, 49, 50, 51, 52, 53, 54, 55, 56, 57, 58, 59, 60, 61, 62, 63, 64, 65, 66, 67, 68, 69, 70, 71, 72, 73, 74, 75, 76, 77, 78, 79, 80, 81, 82, 83, 84, 85, 86] rfl (by decide +kernel)
set_option maxRecDepth 100000 in
theorem gX7_go_X7_move : GoodIn wsX7_go (wsV RX7 280 RX7 yX7_move wsX7_move) := goodIn_app (goodIn_of _ (by decide +kernel)) ggX7_go_X7_move
theorem dX7_go_0 : decode cX7_go 0 = .ok (.aload_n 0, 1) := by decide +kernel
theorem dX7_go_1 : decode cX7_go 1 = .ok (.iload_n 1, 1) := by decide +kernel
theorem dX7_go_2 : decode cX7_go 2 = .ok (.iload_n 2, 1) := by decide +kernel
theorem dX7_go_3 : decode cX7_go 3 = .ok (.invokevirtual 270, 3) := by decide +kernel
theorem dX7_go_6 : decode cX7_go 6 = .ok (.iconst 0, 1) := by decide +kernel
theorem dX7_go_7 : decode cX7_go 7 = .ok (.istore 7, 2) := by decide +kernel
theorem dX7_go_9 : decode cX7_go 9 = .ok (.iload 7, 2) := by decide +kernel
theorem dX7_go_11 : decode cX7_go 11 = .ok (.iload 5, 2) := by decide +kernel
theorem dX7_go_13 : decode cX7_go 13 = .ok (.if_icmp .ge 47, 3) := by decide +kernel
theorem dX7_go_16 : decode cX7_go 16 = .ok (.aload_n 0, 1) := by decide +kernel
theorem dX7_go_17 : decode cX7_go 17 = .ok (.iload 7, 2) := by decide +kernel
theorem dX7_go_19 : decode cX7_go 19 = .ok (.iload 6, 2) := by decide +kernel
theorem dX7_go_21 : decode cX7_go 21 = .ok (.iload 7, 2) := by decide +kernel
theorem dX7_go_23 : decode cX7_go 23 = .ok (.ishr, 1) := by decide +kernel
theorem dX7_go_24 : decode cX7_go 24 = .ok (.iconst 1, 1) := by decide +kernel
theorem dX7_go_25 : decode cX7_go 25 = .ok (.iand, 1) := by decide +kernel
theorem dX7_go_26 : decode cX7_go 26 = .ok (.invokevirtual 273, 3) := by decide +kernel
theorem dX7_go_29 : decode cX7_go 29 = .ok (.aload_n 0, 1) := by decide +kernel
theorem dX7_go_30 : decode cX7_go 30 = .ok (.aload_n 0, 1) := by decide +kernel
theorem dX7_go_31 : decode cX7_go 31 = .ok (.iload_n 3, 1) := by decide +kernel
theorem dX7_go_32 : decode cX7_go 32 = .ok (.iload 4, 2) := by decide +kernel
theorem dX7_go_34 : decode cX7_go 34 = .ok (.iload 7, 2) := by decide +kernel
theorem dX7_go_36 : decode cX7_go 36 = .ok (.iload 6, 2) := by decide +kernel
theorem dX7_go_38 : decode cX7_go 38 = .ok (.invokevirtual 276, 3) := by decide +kernel
theorem dX7_go_41 : decode cX7_go 41 = .ok (.putfield 124, 3) := by decide +kernel
theorem dX7_go_44 : decode cX7_go 44 = .ok (.aload_n 0, 1) := by decide +kernel
theorem dX7_go_45 : decode cX7_go 45 = .ok (.iload 7, 2) := by decide +kernel
theorem dX7_go_47 : decode cX7_go 47 = .ok (.aload_n 0, 1) := by decide +kernel
theorem dX7_go_48 : decode cX7_go 48 = .ok (.getfield 124, 3) := by decide +kernel
theorem dX7_go_51 : decode cX7_go 51 = .ok (.invokevirtual 280, 3) := by decide +kernel
theorem dX7_go_54 : decode cX7_go 54 = .ok (.iinc 7 1, 3) := by decide +kernel
theorem dX7_go_57 : decode cX7_go 57 = .ok (.goto (-48), 3) := by decide +kernel
theorem dX7_go_60 : decode cX7_go 60 = .ok (.return_, 1) := by decide +kernel
set_option maxRecDepth 100000 in
theorem ggX7_areMarks_X7_in : GoodIn wsX7_areMarks wsX7_in := goodIn_r _ [5] rfl (by decide +kernel)
set_option maxRecDepth 100000 in
theorem gX7_areMarks_X7_in : GoodIn wsX7_areMarks (wsV RX7 7 RX7 yX7_in wsX7_in) := goodIn_app (goodIn_of _ (by decide +kernel)) ggX7_areMarks_X7_in
theorem dX7_areMarks_0 : decode cX7_areMarks 0 = .ok (.aload_n 0, 1) := by decide +kernel
theorem dX7_areMarks_1 : decode cX7_areMarks 1 = .ok (.iload_n 1, 1) := by decide +kernel
theorem dX7_areMarks_2 : decode cX7_areMarks 2 = .ok (.iconst 0, 1) := by decide +kernel
theorem dX7_areMarks_3 : decode cX7_areMarks 3 = .ok (.sipush 531, 3) := by decide +kernel
theorem dX7_areMarks_6 : decode cX7_areMarks 6 = .ok (.invokevirtual 7, 3) := by decide +kernel
theorem dX7_areMarks_9 : decode cX7_areMarks 9 = .ok (.ifCond .eq 29, 3) := by decide +kernel
theorem dX7_areMarks_12 : decode cX7_areMarks 12 = .ok (.iload_n 1, 1) := by decide +kernel
theorem dX7_areMarks_13 : decode cX7_areMarks 13 = .ok (.bipush 100, 2) := by decide +kernel
theorem dX7_areMarks_15 : decode cX7_areMarks 15 = .ok (.idiv, 1) := by decide +kernel
theorem dX7_areMarks_16 : decode cX7_areMarks 16 = .ok (.bipush 6, 2) := by decide +kernel
theorem dX7_areMarks_18 : decode cX7_areMarks 18 = .ok (.if_icmp .ge 20, 3) := by decide +kernel
theorem dX7_areMarks_21 : decode cX7_areMarks 21 = .ok (.iload_n 1, 1) := by decide +kernel
theorem dX7_areMarks_22 : decode cX7_areMarks 22 = .ok (.bipush 100, 2) := by decide +kernel
theorem dX7_areMarks_24 : decode cX7_areMarks 24 = .ok (.irem, 1) := by decide +kernel
theorem dX7_areMarks_25 : decode cX7_areMarks 25 = .ok (.iconst 1, 1) := by decide +kernel
theorem dX7_areMarks_26 : decode cX7_areMarks 26 = .ok (.iload_n 1, 1) := by decide +kernel
theorem dX7_areMarks_27 : decode cX7_areMarks 27 = .ok (.bipush 100, 2) := by decide +kernel
theorem dX7_areMarks_29 : decode cX7_areMarks 29 = .ok (.idiv, 1) := by decide +kernel
theorem dX7_areMarks_30 : decode cX7_areMarks 30 = .ok (.ishl, 1) := by decide +kernel
theorem dX7_areMarks_31 : decode cX7_areMarks 31 = .ok (.if_icmp .ge 7, 3) := by decide +kernel
theorem dX7_areMarks_34 : decode cX7_areMarks 34 = .ok (.iconst 1, 1) := by decide +kernel
theorem dX7_areMarks_35 : decode cX7_areMarks 35 = .ok (.goto 4, 3) := by decide +kernel
theorem dX7_areMarks_38 : decode cX7_areMarks 38 = .ok (.iconst 0, 1) := by decide +kernel
theorem dX7_areMarks_39 : decode cX7_areMarks 39 = .ok (.ireturn, 1) := by decide +kernel
set_option maxRecDepth 100000 in
theorem ggX7_goMarks_X7_layRule : GoodIn wsX7_goMarks wsX7_layRule := goodIn_r _ [9, 10, 11, 12, 13, 14, 15, 8, 16, 17, 18, 19, 20, 21, 22, 23, 24, 25, 26, 27, 28, 29, 30, 71, 72, 73, 74, 75, 76, 77, 78, 79, 80, 81, 82, 83, 84, 85, 86, 87, 88, 89, 90, 91, 92, 93, 94, 95, 96, 97, 98, 99, 100, 101, 102, 103, 104, 105, 106, 107, 108, 109, 110, 111, 112, 113, 114, 115, 116, 117] rfl (by decide +kernel)
set_option maxRecDepth 100000 in
theorem gX7_goMarks_X7_layRule : GoodIn wsX7_goMarks (wsV RX7 283 RX7 yX7_layRule wsX7_layRule) := goodIn_app (goodIn_of _ (by decide +kernel)) ggX7_goMarks_X7_layRule
set_option maxRecDepth 100000 in
theorem ggX7_goMarks_X7_go : GoodIn wsX7_goMarks wsX7_go := goodIn_r _ [34, 35, 36, 37, 38, 8, 39, 40, 41, 42, 43, 44, 45, 46, 47, 48, 11, 12, 49, 50, 51, 52, 53, 54, 55, 56, 57, 58, 59, 60, 61, 62, 63, 64, 65, 66, 67, 68, 69, 70, 71, 72, 73, 74, 75, 76, 77, 78, 79, 80, 81, 82, 83, 84, 85, 86, 87, 88, 89, 90, 91, 92, 93, 94, 95, 96, 97, 98, 99, 100, 101, 102, 103, 104, 105, 106, 107, 108, 109, 110, 111, 112, 113, 114, 115, 116, 117] rfl (by decide +kernel)
set_option maxRecDepth 100000 in
theorem gX7_goMarks_X7_go : GoodIn wsX7_goMarks (wsV RX7 286 RX7 yX7_go wsX7_go) := goodIn_app (goodIn_of _ (by decide +kernel)) ggX7_goMarks_X7_go
theorem dX7_goMarks_0 : decode cX7_goMarks 0 = .ok (.aload_n 0, 1) := by decide +kernel
theorem dX7_goMarks_1 : decode cX7_goMarks 1 = .ok (.aload_n 0, 1) := by decide +kernel
theorem dX7_goMarks_2 : decode cX7_goMarks 2 = .ok (.getfield 18, 3) := by decide +kernel
theorem dX7_goMarks_5 : decode cX7_goMarks 5 = .ok (.iload_n 1, 1) := by decide +kernel
theorem dX7_goMarks_6 : decode cX7_goMarks 6 = .ok (.iaload, 1) := by decide +kernel
theorem dX7_goMarks_7 : decode cX7_goMarks 7 = .ok (.invokevirtual 283, 3) := by decide +kernel
theorem dX7_goMarks_10 : decode cX7_goMarks 10 = .ok (.aload_n 0, 1) := by decide +kernel
theorem dX7_goMarks_11 : decode cX7_goMarks 11 = .ok (.iload_n 1, 1) := by decide +kernel
theorem dX7_goMarks_12 : decode cX7_goMarks 12 = .ok (.aload_n 0, 1) := by decide +kernel
theorem dX7_goMarks_13 : decode cX7_goMarks 13 = .ok (.getfield 15, 3) := by decide +kernel
theorem dX7_goMarks_16 : decode cX7_goMarks 16 = .ok (.iload_n 1, 1) := by decide +kernel
theorem dX7_goMarks_17 : decode cX7_goMarks 17 = .ok (.iaload, 1) := by decide +kernel
theorem dX7_goMarks_18 : decode cX7_goMarks 18 = .ok (.aload_n 0, 1) := by decide +kernel
theorem dX7_goMarks_19 : decode cX7_goMarks 19 = .ok (.getfield 11, 3) := by decide +kernel
theorem dX7_goMarks_22 : decode cX7_goMarks 22 = .ok (.iload_n 1, 1) := by decide +kernel
theorem dX7_goMarks_23 : decode cX7_goMarks 23 = .ok (.iaload, 1) := by decide +kernel
theorem dX7_goMarks_24 : decode cX7_goMarks 24 = .ok (.aload_n 0, 1) := by decide +kernel
theorem dX7_goMarks_25 : decode cX7_goMarks 25 = .ok (.getfield 21, 3) := by decide +kernel
theorem dX7_goMarks_28 : decode cX7_goMarks 28 = .ok (.iload_n 1, 1) := by decide +kernel
theorem dX7_goMarks_29 : decode cX7_goMarks 29 = .ok (.iaload, 1) := by decide +kernel
theorem dX7_goMarks_30 : decode cX7_goMarks 30 = .ok (.iload_n 2, 1) := by decide +kernel
theorem dX7_goMarks_31 : decode cX7_goMarks 31 = .ok (.bipush 100, 2) := by decide +kernel
theorem dX7_goMarks_33 : decode cX7_goMarks 33 = .ok (.idiv, 1) := by decide +kernel
theorem dX7_goMarks_34 : decode cX7_goMarks 34 = .ok (.iload_n 2, 1) := by decide +kernel
theorem dX7_goMarks_35 : decode cX7_goMarks 35 = .ok (.bipush 100, 2) := by decide +kernel
theorem dX7_goMarks_37 : decode cX7_goMarks 37 = .ok (.irem, 1) := by decide +kernel
theorem dX7_goMarks_38 : decode cX7_goMarks 38 = .ok (.invokevirtual 286, 3) := by decide +kernel
theorem dX7_goMarks_41 : decode cX7_goMarks 41 = .ok (.return_, 1) := by decide +kernel
theorem dX7_divisor_0 : decode cX7_divisor 0 = .ok (.lload_n 1, 1) := by decide +kernel
theorem dX7_divisor_1 : decode cX7_divisor 1 = .ok (.lconst 0, 1) := by decide +kernel
theorem dX7_divisor_2 : decode cX7_divisor 2 = .ok (.lcmp, 1) := by decide +kernel
theorem dX7_divisor_3 : decode cX7_divisor 3 = .ok (.ifCond .ge 8, 3) := by decide +kernel
theorem dX7_divisor_6 : decode cX7_divisor 6 = .ok (.lload_n 1, 1) := by decide +kernel
theorem dX7_divisor_7 : decode cX7_divisor 7 = .ok (.lneg, 1) := by decide +kernel
theorem dX7_divisor_8 : decode cX7_divisor 8 = .ok (.goto 4, 3) := by decide +kernel
theorem dX7_divisor_11 : decode cX7_divisor 11 = .ok (.lload_n 1, 1) := by decide +kernel
theorem dX7_divisor_12 : decode cX7_divisor 12 = .ok (.lstore 5, 2) := by decide +kernel
theorem dX7_divisor_14 : decode cX7_divisor 14 = .ok (.lload_n 3, 1) := by decide +kernel
theorem dX7_divisor_15 : decode cX7_divisor 15 = .ok (.lstore 7, 2) := by decide +kernel
theorem dX7_divisor_17 : decode cX7_divisor 17 = .ok (.lload 7, 2) := by decide +kernel
theorem dX7_divisor_19 : decode cX7_divisor 19 = .ok (.lconst 0, 1) := by decide +kernel
theorem dX7_divisor_20 : decode cX7_divisor 20 = .ok (.lcmp, 1) := by decide +kernel
theorem dX7_divisor_21 : decode cX7_divisor 21 = .ok (.ifCond .eq 21, 3) := by decide +kernel
theorem dX7_divisor_24 : decode cX7_divisor 24 = .ok (.lload 5, 2) := by decide +kernel
theorem dX7_divisor_26 : decode cX7_divisor 26 = .ok (.lload 7, 2) := by decide +kernel
theorem dX7_divisor_28 : decode cX7_divisor 28 = .ok (.lrem, 1) := by decide +kernel
theorem dX7_divisor_29 : decode cX7_divisor 29 = .ok (.lstore 9, 2) := by decide +kernel
theorem dX7_divisor_31 : decode cX7_divisor 31 = .ok (.lload 7, 2) := by decide +kernel
theorem dX7_divisor_33 : decode cX7_divisor 33 = .ok (.lstore 5, 2) := by decide +kernel
theorem dX7_divisor_35 : decode cX7_divisor 35 = .ok (.lload 9, 2) := by decide +kernel
theorem dX7_divisor_37 : decode cX7_divisor 37 = .ok (.lstore 7, 2) := by decide +kernel
theorem dX7_divisor_39 : decode cX7_divisor 39 = .ok (.goto (-22), 3) := by decide +kernel
theorem dX7_divisor_42 : decode cX7_divisor 42 = .ok (.lload 5, 2) := by decide +kernel
theorem dX7_divisor_44 : decode cX7_divisor 44 = .ok (.lreturn, 1) := by decide +kernel
set_option maxRecDepth 100000 in
theorem ggX7_lowest_X7_divisor : GoodIn wsX7_lowest wsX7_divisor := goodIn_r _ [5] rfl (by decide +kernel)
set_option maxRecDepth 100000 in
theorem gX7_lowest_X7_divisor : GoodIn wsX7_lowest (wsV RX7 290 RX7 yX7_divisor wsX7_divisor) := goodIn_app (goodIn_of _ (by decide +kernel)) ggX7_lowest_X7_divisor
theorem dX7_lowest_0 : decode cX7_lowest 0 = .ok (.lload_n 3, 1) := by decide +kernel
theorem dX7_lowest_1 : decode cX7_lowest 1 = .ok (.lconst 0, 1) := by decide +kernel
theorem dX7_lowest_2 : decode cX7_lowest 2 = .ok (.lcmp, 1) := by decide +kernel
theorem dX7_lowest_3 : decode cX7_lowest 3 = .ok (.ifCond .ne 7, 3) := by decide +kernel
theorem dX7_lowest_6 : decode cX7_lowest 6 = .ok (.lconst 0, 1) := by decide +kernel
theorem dX7_lowest_7 : decode cX7_lowest 7 = .ok (.goto 4, 3) := by decide +kernel
theorem dX7_lowest_10 : decode cX7_lowest 10 = .ok (.lload_n 1, 1) := by decide +kernel
theorem dX7_lowest_11 : decode cX7_lowest 11 = .ok (.lstore 6, 2) := by decide +kernel
theorem dX7_lowest_13 : decode cX7_lowest 13 = .ok (.lload_n 3, 1) := by decide +kernel
theorem dX7_lowest_14 : decode cX7_lowest 14 = .ok (.lconst 0, 1) := by decide +kernel
theorem dX7_lowest_15 : decode cX7_lowest 15 = .ok (.lcmp, 1) := by decide +kernel
theorem dX7_lowest_16 : decode cX7_lowest 16 = .ok (.ifCond .ne 7, 3) := by decide +kernel
theorem dX7_lowest_19 : decode cX7_lowest 19 = .ok (.lconst 1, 1) := by decide +kernel
theorem dX7_lowest_20 : decode cX7_lowest 20 = .ok (.goto 4, 3) := by decide +kernel
theorem dX7_lowest_23 : decode cX7_lowest 23 = .ok (.lload_n 3, 1) := by decide +kernel
theorem dX7_lowest_24 : decode cX7_lowest 24 = .ok (.lstore 8, 2) := by decide +kernel
theorem dX7_lowest_26 : decode cX7_lowest 26 = .ok (.aload_n 0, 1) := by decide +kernel
theorem dX7_lowest_27 : decode cX7_lowest 27 = .ok (.lload 6, 2) := by decide +kernel
theorem dX7_lowest_29 : decode cX7_lowest 29 = .ok (.lload 8, 2) := by decide +kernel
theorem dX7_lowest_31 : decode cX7_lowest 31 = .ok (.invokevirtual 290, 3) := by decide +kernel
theorem dX7_lowest_34 : decode cX7_lowest 34 = .ok (.lstore 10, 2) := by decide +kernel
theorem dX7_lowest_36 : decode cX7_lowest 36 = .ok (.iload 5, 2) := by decide +kernel
theorem dX7_lowest_38 : decode cX7_lowest 38 = .ok (.ifCond .ne 11, 3) := by decide +kernel
theorem dX7_lowest_41 : decode cX7_lowest 41 = .ok (.lload 6, 2) := by decide +kernel
theorem dX7_lowest_43 : decode cX7_lowest 43 = .ok (.lload 10, 2) := by decide +kernel
theorem dX7_lowest_45 : decode cX7_lowest 45 = .ok (.ldiv, 1) := by decide +kernel
theorem dX7_lowest_46 : decode cX7_lowest 46 = .ok (.goto 8, 3) := by decide +kernel
theorem dX7_lowest_49 : decode cX7_lowest 49 = .ok (.lload 8, 2) := by decide +kernel
theorem dX7_lowest_51 : decode cX7_lowest 51 = .ok (.lload 10, 2) := by decide +kernel
theorem dX7_lowest_53 : decode cX7_lowest 53 = .ok (.ldiv, 1) := by decide +kernel
theorem dX7_lowest_54 : decode cX7_lowest 54 = .ok (.lreturn, 1) := by decide +kernel
set_option maxRecDepth 100000 in
theorem ggX7_thought_X7_isPupil : GoodIn wsX7_thought wsX7_isPupil := goodIn_r _ [7, 8, 9, 10, 11, 6, 12, 97, 98, 99, 100, 101, 102, 103, 104, 105, 106, 107, 108, 109, 110, 111, 112, 113, 114, 115, 116, 117, 118, 119, 120, 121, 122, 123, 124, 125, 126, 127, 128, 129, 130, 131, 132, 133, 134, 135, 136, 137, 138, 139, 140, 141, 142, 143] rfl (by decide +kernel)
set_option maxRecDepth 100000 in
theorem gX7_thought_X7_isPupil : GoodIn wsX7_thought (wsV RX7 35 RX7 yX7_isPupil wsX7_isPupil) := goodIn_app (goodIn_of _ (by decide +kernel)) ggX7_thought_X7_isPupil
set_option maxRecDepth 100000 in
theorem ggX7_thought_X7_areMarks : GoodIn wsX7_thought wsX7_areMarks := goodIn_r _ [16, 9, 10, 11, 6, 12] rfl (by decide +kernel)
set_option maxRecDepth 100000 in
theorem gX7_thought_X7_areMarks : GoodIn wsX7_thought (wsV RX7 294 RX7 yX7_areMarks wsX7_areMarks) := goodIn_app (goodIn_of _ (by decide +kernel)) ggX7_thought_X7_areMarks
set_option maxRecDepth 100000 in
theorem ggX7_thought_X7_in : GoodIn wsX7_thought wsX7_in := goodIn_r _ [12] rfl (by decide +kernel)
set_option maxRecDepth 100000 in
theorem gX7_thought_X7_in : GoodIn wsX7_thought (wsV RX7 7 RX7 yX7_in wsX7_in) := goodIn_app (goodIn_of _ (by decide +kernel)) ggX7_thought_X7_in
set_option maxRecDepth 100000 in
theorem ggX7_thought_X7_goMarks : GoodIn wsX7_thought wsX7_goMarks := goodIn_r _ [20, 21, 22, 23, 24, 25, 26, 27, 6, 28, 29, 30, 31, 32, 33, 34, 35, 36, 37, 38, 39, 40, 41, 42, 43, 44, 45, 46, 47, 48, 49, 50, 51, 52, 53, 54, 55, 56, 57, 58, 2, 59, 60, 61, 62, 63, 64, 65, 66, 67, 68, 69, 70, 71, 72, 73, 74, 75, 76, 77, 78, 79, 80, 81, 82, 83, 84, 85, 86, 87, 88, 97, 98, 99, 100, 101, 102, 103, 104, 105, 106, 107, 108, 109, 110, 111, 112, 113, 114, 115, 116, 117, 118, 119, 120, 121, 122, 123, 124, 125, 126, 127, 128, 129, 130, 131, 132, 133, 134, 135, 136, 137, 138, 139, 140, 141, 142, 143] rfl (by decide +kernel)
set_option maxRecDepth 100000 in
theorem gX7_thought_X7_goMarks : GoodIn wsX7_thought (wsV RX7 299 RX7 yX7_goMarks wsX7_goMarks) := goodIn_app (goodIn_of _ (by decide +kernel)) ggX7_thought_X7_goMarks
set_option maxRecDepth 100000 in
theorem ggX7_thought_X7_sumRow : GoodIn wsX7_thought wsX7_sumRow := goodIn_r _ [76, 2, 97, 98, 99, 100, 101, 102, 103, 104, 105, 106, 107, 108, 109, 110, 111, 112, 113, 114, 115, 116, 117, 118, 119, 120, 121, 122, 123, 124, 125, 126, 127, 128, 129, 130, 131, 132, 133, 134, 135, 136, 137, 138, 139, 140, 141, 142, 143] rfl (by decide +kernel)
set_option maxRecDepth 100000 in
theorem gX7_thought_X7_sumRow : GoodIn wsX7_thought (wsV RX7 258 RX7 yX7_sumRow wsX7_sumRow) := goodIn_app (goodIn_of _ (by decide +kernel)) ggX7_thought_X7_sumRow
set_option maxRecDepth 100000 in
theorem ggX7_thought_X7_lowest : GoodIn wsX7_thought wsX7_lowest := goodIn_r _ [92, 93, 94, 95, 6, 96] rfl (by decide +kernel)
set_option maxRecDepth 100000 in
theorem gX7_thought_X7_lowest : GoodIn wsX7_thought (wsV RX7 302 RX7 yX7_lowest wsX7_lowest) := goodIn_app (goodIn_of _ (by decide +kernel)) ggX7_thought_X7_lowest
theorem dX7_thought_0 : decode cX7_thought 0 = .ok (.aload_n 0, 1) := by decide +kernel
theorem dX7_thought_1 : decode cX7_thought 1 = .ok (.iload_n 1, 1) := by decide +kernel
theorem dX7_thought_2 : decode cX7_thought 2 = .ok (.invokevirtual 35, 3) := by decide +kernel
theorem dX7_thought_5 : decode cX7_thought 5 = .ok (.ifCond .eq 32, 3) := by decide +kernel
theorem dX7_thought_8 : decode cX7_thought 8 = .ok (.aload_n 0, 1) := by decide +kernel
theorem dX7_thought_9 : decode cX7_thought 9 = .ok (.iload_n 2, 1) := by decide +kernel
theorem dX7_thought_10 : decode cX7_thought 10 = .ok (.invokevirtual 294, 3) := by decide +kernel
theorem dX7_thought_13 : decode cX7_thought 13 = .ok (.ifCond .eq 24, 3) := by decide +kernel
theorem dX7_thought_16 : decode cX7_thought 16 = .ok (.aload_n 0, 1) := by decide +kernel
theorem dX7_thought_17 : decode cX7_thought 17 = .ok (.iload_n 3, 1) := by decide +kernel
theorem dX7_thought_18 : decode cX7_thought 18 = .ok (.iconst 0, 1) := by decide +kernel
theorem dX7_thought_19 : decode cX7_thought 19 = .ok (.iconst 4, 1) := by decide +kernel
theorem dX7_thought_20 : decode cX7_thought 20 = .ok (.invokevirtual 7, 3) := by decide +kernel
theorem dX7_thought_23 : decode cX7_thought 23 = .ok (.ifCond .eq 14, 3) := by decide +kernel
theorem dX7_thought_26 : decode cX7_thought 26 = .ok (.aload_n 0, 1) := by decide +kernel
theorem dX7_thought_27 : decode cX7_thought 27 = .ok (.iload 4, 2) := by decide +kernel
theorem dX7_thought_29 : decode cX7_thought 29 = .ok (.iconst 0, 1) := by decide +kernel
theorem dX7_thought_30 : decode cX7_thought 30 = .ok (.iconst 1, 1) := by decide +kernel
theorem dX7_thought_31 : decode cX7_thought 31 = .ok (.invokevirtual 7, 3) := by decide +kernel
theorem dX7_thought_34 : decode cX7_thought 34 = .ok (.ifCond .ne 7, 3) := by decide +kernel
theorem dX7_thought_37 : decode cX7_thought 37 = .ok (.ldc2_w 297, 3) := by decide +kernel
theorem dX7_thought_40 : decode cX7_thought 40 = .ok (.lreturn, 1) := by decide +kernel
theorem dX7_thought_41 : decode cX7_thought 41 = .ok (.aload_n 0, 1) := by decide +kernel
theorem dX7_thought_42 : decode cX7_thought 42 = .ok (.iload_n 1, 1) := by decide +kernel
theorem dX7_thought_43 : decode cX7_thought 43 = .ok (.iload_n 2, 1) := by decide +kernel
theorem dX7_thought_44 : decode cX7_thought 44 = .ok (.invokevirtual 299, 3) := by decide +kernel
theorem dX7_thought_47 : decode cX7_thought 47 = .ok (.aload_n 0, 1) := by decide +kernel
theorem dX7_thought_48 : decode cX7_thought 48 = .ok (.aload_n 0, 1) := by decide +kernel
theorem dX7_thought_49 : decode cX7_thought 49 = .ok (.getfield 110, 3) := by decide +kernel
theorem dX7_thought_52 : decode cX7_thought 52 = .ok (.iconst 5, 1) := by decide +kernel
theorem dX7_thought_53 : decode cX7_thought 53 = .ok (.iload_n 2, 1) := by decide +kernel
theorem dX7_thought_54 : decode cX7_thought 54 = .ok (.bipush 100, 2) := by decide +kernel
theorem dX7_thought_56 : decode cX7_thought 56 = .ok (.idiv, 1) := by decide +kernel
theorem dX7_thought_57 : decode cX7_thought 57 = .ok (.imul, 1) := by decide +kernel
theorem dX7_thought_58 : decode cX7_thought 58 = .ok (.iload_n 3, 1) := by decide +kernel
theorem dX7_thought_59 : decode cX7_thought 59 = .ok (.iadd, 1) := by decide +kernel
theorem dX7_thought_60 : decode cX7_thought 60 = .ok (.laload, 1) := by decide +kernel
theorem dX7_thought_61 : decode cX7_thought 61 = .ok (.aload_n 0, 1) := by decide +kernel
theorem dX7_thought_62 : decode cX7_thought 62 = .ok (.iload_n 2, 1) := by decide +kernel
theorem dX7_thought_63 : decode cX7_thought 63 = .ok (.bipush 100, 2) := by decide +kernel
theorem dX7_thought_65 : decode cX7_thought 65 = .ok (.idiv, 1) := by decide +kernel
theorem dX7_thought_66 : decode cX7_thought 66 = .ok (.invokevirtual 258, 3) := by decide +kernel
theorem dX7_thought_69 : decode cX7_thought 69 = .ok (.iload 4, 2) := by decide +kernel
theorem dX7_thought_71 : decode cX7_thought 71 = .ok (.invokevirtual 302, 3) := by decide +kernel
theorem dX7_thought_74 : decode cX7_thought 74 = .ok (.lreturn, 1) := by decide +kernel
set_option maxRecDepth 100000 in
theorem ggX7_moves_X7_isPupil : GoodIn wsX7_moves wsX7_isPupil := goodIn_r _ [8, 9, 10, 11, 12, 7, 13, 88, 89, 90, 91, 92, 93, 94, 95, 96, 97, 98, 99, 100, 101, 102, 103, 104, 105, 106, 107, 108, 109, 110, 111, 112, 113, 114, 115, 116, 117, 118, 119, 120, 121, 122, 123, 124, 125, 126, 127, 128, 129, 130, 131, 132, 133, 134] rfl (by decide +kernel)
set_option maxRecDepth 100000 in
theorem gX7_moves_X7_isPupil : GoodIn wsX7_moves (wsV RX7 35 RX7 yX7_isPupil wsX7_isPupil) := goodIn_app (goodIn_of _ (by decide +kernel)) ggX7_moves_X7_isPupil
set_option maxRecDepth 100000 in
theorem ggX7_moves_X7_areMarks : GoodIn wsX7_moves wsX7_areMarks := goodIn_r _ [17, 10, 11, 12, 7, 13] rfl (by decide +kernel)
set_option maxRecDepth 100000 in
theorem gX7_moves_X7_areMarks : GoodIn wsX7_moves (wsV RX7 294 RX7 yX7_areMarks wsX7_areMarks) := goodIn_app (goodIn_of _ (by decide +kernel)) ggX7_moves_X7_areMarks
set_option maxRecDepth 100000 in
theorem ggX7_moves_X7_in : GoodIn wsX7_moves wsX7_in := goodIn_r _ [13] rfl (by decide +kernel)
set_option maxRecDepth 100000 in
theorem gX7_moves_X7_in : GoodIn wsX7_moves (wsV RX7 7 RX7 yX7_in wsX7_in) := goodIn_app (goodIn_of _ (by decide +kernel)) ggX7_moves_X7_in
set_option maxRecDepth 100000 in
theorem ggX7_moves_X7_goMarks : GoodIn wsX7_moves wsX7_goMarks := goodIn_r _ [21, 22, 23, 24, 25, 26, 27, 28, 7, 29, 30, 31, 32, 33, 34, 35, 36, 37, 38, 39, 40, 41, 42, 43, 44, 45, 46, 47, 48, 49, 50, 51, 52, 53, 54, 3, 55, 56, 57, 58, 59, 60, 1, 2, 61, 62, 63, 64, 65, 66, 67, 68, 69, 70, 71, 72, 73, 74, 75, 76, 77, 78, 79, 80, 81, 82, 83, 84, 85, 86, 87, 88, 89, 90, 91, 92, 93, 94, 95, 96, 97, 98, 99, 100, 101, 102, 103, 104, 105, 106, 107, 108, 109, 110, 111, 112, 113, 114, 115, 116, 117, 118, 119, 120, 121, 122, 123, 124, 125, 126, 127, 128, 129, 130, 131, 132, 133, 134] rfl (by decide +kernel)
set_option maxRecDepth 100000 in
theorem gX7_moves_X7_goMarks : GoodIn wsX7_moves (wsV RX7 299 RX7 yX7_goMarks wsX7_goMarks) := goodIn_app (goodIn_of _ (by decide +kernel)) ggX7_moves_X7_goMarks
theorem dX7_moves_0 : decode cX7_moves 0 = .ok (.aload_n 0, 1) := by decide +kernel
theorem dX7_moves_1 : decode cX7_moves 1 = .ok (.iload_n 1, 1) := by decide +kernel
theorem dX7_moves_2 : decode cX7_moves 2 = .ok (.invokevirtual 35, 3) := by decide +kernel
theorem dX7_moves_5 : decode cX7_moves 5 = .ok (.ifCond .eq 21, 3) := by decide +kernel
theorem dX7_moves_8 : decode cX7_moves 8 = .ok (.aload_n 0, 1) := by decide +kernel
theorem dX7_moves_9 : decode cX7_moves 9 = .ok (.iload_n 2, 1) := by decide +kernel
theorem dX7_moves_10 : decode cX7_moves 10 = .ok (.invokevirtual 294, 3) := by decide +kernel
theorem dX7_moves_13 : decode cX7_moves 13 = .ok (.ifCond .eq 13, 3) := by decide +kernel
theorem dX7_moves_16 : decode cX7_moves 16 = .ok (.aload_n 0, 1) := by decide +kernel
theorem dX7_moves_17 : decode cX7_moves 17 = .ok (.iload_n 3, 1) := by decide +kernel
theorem dX7_moves_18 : decode cX7_moves 18 = .ok (.iconst 0, 1) := by decide +kernel
theorem dX7_moves_19 : decode cX7_moves 19 = .ok (.iconst 2, 1) := by decide +kernel
theorem dX7_moves_20 : decode cX7_moves 20 = .ok (.invokevirtual 7, 3) := by decide +kernel
theorem dX7_moves_23 : decode cX7_moves 23 = .ok (.ifCond .ne 6, 3) := by decide +kernel
theorem dX7_moves_26 : decode cX7_moves 26 = .ok (.bipush (-5), 2) := by decide +kernel
theorem dX7_moves_28 : decode cX7_moves 28 = .ok (.ireturn, 1) := by decide +kernel
theorem dX7_moves_29 : decode cX7_moves 29 = .ok (.aload_n 0, 1) := by decide +kernel
theorem dX7_moves_30 : decode cX7_moves 30 = .ok (.iload_n 1, 1) := by decide +kernel
theorem dX7_moves_31 : decode cX7_moves 31 = .ok (.iload_n 2, 1) := by decide +kernel
theorem dX7_moves_32 : decode cX7_moves 32 = .ok (.invokevirtual 299, 3) := by decide +kernel
theorem dX7_moves_35 : decode cX7_moves 35 = .ok (.iload_n 3, 1) := by decide +kernel
theorem dX7_moves_36 : decode cX7_moves 36 = .ok (.ifCond .ne 15, 3) := by decide +kernel
theorem dX7_moves_39 : decode cX7_moves 39 = .ok (.aload_n 0, 1) := by decide +kernel
theorem dX7_moves_40 : decode cX7_moves 40 = .ok (.getfield 114, 3) := by decide +kernel
theorem dX7_moves_43 : decode cX7_moves 43 = .ok (.iload_n 2, 1) := by decide +kernel
theorem dX7_moves_44 : decode cX7_moves 44 = .ok (.bipush 100, 2) := by decide +kernel
theorem dX7_moves_46 : decode cX7_moves 46 = .ok (.idiv, 1) := by decide +kernel
theorem dX7_moves_47 : decode cX7_moves 47 = .ok (.iaload, 1) := by decide +kernel
theorem dX7_moves_48 : decode cX7_moves 48 = .ok (.goto 24, 3) := by decide +kernel
theorem dX7_moves_51 : decode cX7_moves 51 = .ok (.iload_n 3, 1) := by decide +kernel
theorem dX7_moves_52 : decode cX7_moves 52 = .ok (.iconst 1, 1) := by decide +kernel
theorem dX7_moves_53 : decode cX7_moves 53 = .ok (.if_icmp .ne 15, 3) := by decide +kernel
theorem dX7_moves_56 : decode cX7_moves 56 = .ok (.aload_n 0, 1) := by decide +kernel
theorem dX7_moves_57 : decode cX7_moves 57 = .ok (.getfield 117, 3) := by decide +kernel
theorem dX7_moves_60 : decode cX7_moves 60 = .ok (.iload_n 2, 1) := by decide +kernel
theorem dX7_moves_61 : decode cX7_moves 61 = .ok (.bipush 100, 2) := by decide +kernel
theorem dX7_moves_63 : decode cX7_moves 63 = .ok (.idiv, 1) := by decide +kernel
theorem dX7_moves_64 : decode cX7_moves 64 = .ok (.iaload, 1) := by decide +kernel
theorem dX7_moves_65 : decode cX7_moves 65 = .ok (.goto 7, 3) := by decide +kernel
theorem dX7_moves_68 : decode cX7_moves 68 = .ok (.aload_n 0, 1) := by decide +kernel
theorem dX7_moves_69 : decode cX7_moves 69 = .ok (.getfield 124, 3) := by decide +kernel
theorem dX7_moves_72 : decode cX7_moves 72 = .ok (.ireturn, 1) := by decide +kernel
theorem dX7_hundreds_0 : decode cX7_hundreds 0 = .ok (.lconst 1, 1) := by decide +kernel
theorem dX7_hundreds_1 : decode cX7_hundreds 1 = .ok (.lstore_n 2, 1) := by decide +kernel
theorem dX7_hundreds_2 : decode cX7_hundreds 2 = .ok (.iconst 0, 1) := by decide +kernel
theorem dX7_hundreds_3 : decode cX7_hundreds 3 = .ok (.istore 4, 2) := by decide +kernel
theorem dX7_hundreds_5 : decode cX7_hundreds 5 = .ok (.iload 4, 2) := by decide +kernel
theorem dX7_hundreds_7 : decode cX7_hundreds 7 = .ok (.iload_n 1, 1) := by decide +kernel
theorem dX7_hundreds_8 : decode cX7_hundreds 8 = .ok (.if_icmp .ge 15, 3) := by decide +kernel
theorem dX7_hundreds_11 : decode cX7_hundreds 11 = .ok (.lload_n 2, 1) := by decide +kernel
theorem dX7_hundreds_12 : decode cX7_hundreds 12 = .ok (.ldc2_w 306, 3) := by decide +kernel
theorem dX7_hundreds_15 : decode cX7_hundreds 15 = .ok (.lmul, 1) := by decide +kernel
theorem dX7_hundreds_16 : decode cX7_hundreds 16 = .ok (.lstore_n 2, 1) := by decide +kernel
theorem dX7_hundreds_17 : decode cX7_hundreds 17 = .ok (.iinc 4 1, 3) := by decide +kernel
theorem dX7_hundreds_20 : decode cX7_hundreds 20 = .ok (.goto (-15), 3) := by decide +kernel
theorem dX7_hundreds_23 : decode cX7_hundreds 23 = .ok (.lload_n 2, 1) := by decide +kernel
theorem dX7_hundreds_24 : decode cX7_hundreds 24 = .ok (.lreturn, 1) := by decide +kernel
set_option maxRecDepth 100000 in
theorem ggX7_likely_X7_isPupil : GoodIn wsX7_likely wsX7_isPupil := goodIn_r _ [7, 8, 9, 10, 11, 6, 12, 106, 107, 108, 109, 110, 111, 112, 113, 114, 115, 116, 117, 118, 119, 120, 121, 122, 123, 124, 125, 126, 127, 128, 129, 130, 131, 132, 133, 134, 135, 136, 137, 138, 139, 140, 141, 142, 143, 144, 145, 146, 147, 148, 149, 150, 151, 152] rfl (by decide +kernel)
set_option maxRecDepth 100000 in
theorem gX7_likely_X7_isPupil : GoodIn wsX7_likely (wsV RX7 35 RX7 yX7_isPupil wsX7_isPupil) := goodIn_app (goodIn_of _ (by decide +kernel)) ggX7_likely_X7_isPupil
set_option maxRecDepth 100000 in
theorem ggX7_likely_X7_areMarks : GoodIn wsX7_likely wsX7_areMarks := goodIn_r _ [16, 9, 10, 11, 6, 12] rfl (by decide +kernel)
set_option maxRecDepth 100000 in
theorem gX7_likely_X7_areMarks : GoodIn wsX7_likely (wsV RX7 294 RX7 yX7_areMarks wsX7_areMarks) := goodIn_app (goodIn_of _ (by decide +kernel)) ggX7_likely_X7_areMarks
set_option maxRecDepth 100000 in
theorem ggX7_likely_X7_in : GoodIn wsX7_likely wsX7_in := goodIn_r _ [12] rfl (by decide +kernel)
set_option maxRecDepth 100000 in
theorem gX7_likely_X7_in : GoodIn wsX7_likely (wsV RX7 7 RX7 yX7_in wsX7_in) := goodIn_app (goodIn_of _ (by decide +kernel)) ggX7_likely_X7_in
set_option maxRecDepth 100000 in
theorem ggX7_likely_X7_goMarks : GoodIn wsX7_likely wsX7_goMarks := goodIn_r _ [20, 21, 22, 23, 24, 25, 26, 27, 6, 28, 29, 30, 31, 32, 33, 34, 35, 36, 37, 38, 39, 40, 41, 42, 43, 44, 45, 46, 47, 48, 49, 50, 51, 52, 53, 54, 55, 56, 57, 58, 59, 60, 2, 61, 62, 63, 64, 65, 66, 67, 68, 69, 70, 71, 72, 73, 74, 75, 76, 77, 78, 79, 80, 81, 82, 83, 84, 85, 86, 87, 88, 106, 107, 108, 109, 110, 111, 112, 113, 114, 115, 116, 117, 118, 119, 120, 121, 122, 123, 124, 125, 126, 127, 128, 129, 130, 131, 132, 133, 134, 135, 136, 137, 138, 139, 140, 141, 142, 143, 144, 145, 146, 147, 148, 149, 150, 151, 152] rfl (by decide +kernel)
set_option maxRecDepth 100000 in
theorem gX7_likely_X7_goMarks : GoodIn wsX7_likely (wsV RX7 299 RX7 yX7_goMarks wsX7_goMarks) := goodIn_app (goodIn_of _ (by decide +kernel)) ggX7_likely_X7_goMarks
set_option maxRecDepth 100000 in
theorem ggX7_likely_X7_sumRow : GoodIn wsX7_likely wsX7_sumRow := goodIn_r _ [76, 59, 106, 107, 108, 109, 110, 111, 112, 113, 114, 115, 116, 117, 118, 119, 120, 121, 122, 123, 124, 125, 126, 127, 128, 129, 130, 131, 132, 133, 134, 135, 136, 137, 138, 139, 140, 141, 142, 143, 144, 145, 146, 147, 148, 149, 150, 151, 152] rfl (by decide +kernel)
set_option maxRecDepth 100000 in
theorem gX7_likely_X7_sumRow : GoodIn wsX7_likely (wsV RX7 258 RX7 yX7_sumRow wsX7_sumRow) := goodIn_app (goodIn_of _ (by decide +kernel)) ggX7_likely_X7_sumRow
set_option maxRecDepth 100000 in
theorem ggX7_likely_X7_sumOf : GoodIn wsX7_likely wsX7_sumOf := goodIn_r _ [92, 60, 106, 107, 108, 109, 110, 111, 112, 113, 114, 115, 116, 117, 118, 119, 120, 121, 122, 123, 124, 125, 126, 127, 128, 129, 130, 131, 132, 133, 134, 135, 136, 137, 138, 139, 140, 141, 142, 143, 144, 145, 146, 147, 148, 149, 150, 151, 152] rfl (by decide +kernel)
set_option maxRecDepth 100000 in
theorem gX7_likely_X7_sumOf : GoodIn wsX7_likely (wsV RX7 40 RX7 yX7_sumOf wsX7_sumOf) := goodIn_app (goodIn_of _ (by decide +kernel)) ggX7_likely_X7_sumOf
set_option maxRecDepth 100000 in
theorem ggX7_likely_X7_hundreds : GoodIn wsX7_likely wsX7_hundreds := goodIn_r _ [96, 97] rfl (by decide +kernel)
set_option maxRecDepth 100000 in
theorem gX7_likely_X7_hundreds : GoodIn wsX7_likely (wsV RX7 308 RX7 yX7_hundreds wsX7_hundreds) := goodIn_app (goodIn_of _ (by decide +kernel)) ggX7_likely_X7_hundreds
set_option maxRecDepth 100000 in
theorem ggX7_likely_X7_lowest : GoodIn wsX7_likely wsX7_lowest := goodIn_r _ [101, 102, 103, 104, 6, 105] rfl (by decide +kernel)
set_option maxRecDepth 100000 in
theorem gX7_likely_X7_lowest : GoodIn wsX7_likely (wsV RX7 302 RX7 yX7_lowest wsX7_lowest) := goodIn_app (goodIn_of _ (by decide +kernel)) ggX7_likely_X7_lowest
set_option maxRecDepth 100000 in
theorem ggX7_likely_X7_sumFrom : GoodIn wsX7_likely wsX7_sumFrom := goodIn_r _ [80, 59, 106, 107, 108, 109, 110, 111, 112, 113, 114, 115, 116, 117, 118, 119, 120, 121, 122, 123, 124, 125, 126, 127, 128, 129, 130, 131, 132, 133, 134, 135, 136, 137, 138, 139, 140, 141, 142, 143, 144, 145, 146, 147, 148, 149, 150, 151, 152] rfl (by decide +kernel)
set_option maxRecDepth 100000 in
theorem gX7_likely_X7_sumFrom : GoodIn wsX7_likely (wsV RX7 262 RX7 yX7_sumFrom wsX7_sumFrom) := goodIn_app (goodIn_of _ (by decide +kernel)) ggX7_likely_X7_sumFrom
theorem dX7_likely_0 : decode cX7_likely 0 = .ok (.aload_n 0, 1) := by decide +kernel
theorem dX7_likely_1 : decode cX7_likely 1 = .ok (.iload_n 1, 1) := by decide +kernel
theorem dX7_likely_2 : decode cX7_likely 2 = .ok (.invokevirtual 35, 3) := by decide +kernel
theorem dX7_likely_5 : decode cX7_likely 5 = .ok (.ifCond .eq 21, 3) := by decide +kernel
theorem dX7_likely_8 : decode cX7_likely 8 = .ok (.aload_n 0, 1) := by decide +kernel
theorem dX7_likely_9 : decode cX7_likely 9 = .ok (.iload_n 2, 1) := by decide +kernel
theorem dX7_likely_10 : decode cX7_likely 10 = .ok (.invokevirtual 294, 3) := by decide +kernel
theorem dX7_likely_13 : decode cX7_likely 13 = .ok (.ifCond .eq 13, 3) := by decide +kernel
theorem dX7_likely_16 : decode cX7_likely 16 = .ok (.aload_n 0, 1) := by decide +kernel
theorem dX7_likely_17 : decode cX7_likely 17 = .ok (.iload_n 3, 1) := by decide +kernel
theorem dX7_likely_18 : decode cX7_likely 18 = .ok (.iconst 0, 1) := by decide +kernel
theorem dX7_likely_19 : decode cX7_likely 19 = .ok (.iconst 3, 1) := by decide +kernel
theorem dX7_likely_20 : decode cX7_likely 20 = .ok (.invokevirtual 7, 3) := by decide +kernel
theorem dX7_likely_23 : decode cX7_likely 23 = .ok (.ifCond .ne 7, 3) := by decide +kernel
theorem dX7_likely_26 : decode cX7_likely 26 = .ok (.ldc2_w 297, 3) := by decide +kernel
theorem dX7_likely_29 : decode cX7_likely 29 = .ok (.lreturn, 1) := by decide +kernel
theorem dX7_likely_30 : decode cX7_likely 30 = .ok (.aload_n 0, 1) := by decide +kernel
theorem dX7_likely_31 : decode cX7_likely 31 = .ok (.iload_n 1, 1) := by decide +kernel
theorem dX7_likely_32 : decode cX7_likely 32 = .ok (.iload_n 2, 1) := by decide +kernel
theorem dX7_likely_33 : decode cX7_likely 33 = .ok (.invokevirtual 299, 3) := by decide +kernel
theorem dX7_likely_36 : decode cX7_likely 36 = .ok (.iload_n 2, 1) := by decide +kernel
theorem dX7_likely_37 : decode cX7_likely 37 = .ok (.bipush 100, 2) := by decide +kernel
theorem dX7_likely_39 : decode cX7_likely 39 = .ok (.idiv, 1) := by decide +kernel
theorem dX7_likely_40 : decode cX7_likely 40 = .ok (.istore 4, 2) := by decide +kernel
theorem dX7_likely_42 : decode cX7_likely 42 = .ok (.iload_n 3, 1) := by decide +kernel
theorem dX7_likely_43 : decode cX7_likely 43 = .ok (.iconst 2, 1) := by decide +kernel
theorem dX7_likely_44 : decode cX7_likely 44 = .ok (.if_icmp .ge 28, 3) := by decide +kernel
theorem dX7_likely_47 : decode cX7_likely 47 = .ok (.aload_n 0, 1) := by decide +kernel
theorem dX7_likely_48 : decode cX7_likely 48 = .ok (.aload_n 0, 1) := by decide +kernel
theorem dX7_likely_49 : decode cX7_likely 49 = .ok (.iload 4, 2) := by decide +kernel
theorem dX7_likely_51 : decode cX7_likely 51 = .ok (.invokevirtual 258, 3) := by decide +kernel
theorem dX7_likely_54 : decode cX7_likely 54 = .ok (.aload_n 0, 1) := by decide +kernel
theorem dX7_likely_55 : decode cX7_likely 55 = .ok (.iload_n 1, 1) := by decide +kernel
theorem dX7_likely_56 : decode cX7_likely 56 = .ok (.invokevirtual 40, 3) := by decide +kernel
theorem dX7_likely_59 : decode cX7_likely 59 = .ok (.i2l, 1) := by decide +kernel
theorem dX7_likely_60 : decode cX7_likely 60 = .ok (.aload_n 0, 1) := by decide +kernel
theorem dX7_likely_61 : decode cX7_likely 61 = .ok (.iload 4, 2) := by decide +kernel
theorem dX7_likely_63 : decode cX7_likely 63 = .ok (.invokevirtual 308, 3) := by decide +kernel
theorem dX7_likely_66 : decode cX7_likely 66 = .ok (.lmul, 1) := by decide +kernel
theorem dX7_likely_67 : decode cX7_likely 67 = .ok (.iload_n 3, 1) := by decide +kernel
theorem dX7_likely_68 : decode cX7_likely 68 = .ok (.invokevirtual 302, 3) := by decide +kernel
theorem dX7_likely_71 : decode cX7_likely 71 = .ok (.lreturn, 1) := by decide +kernel
theorem dX7_likely_72 : decode cX7_likely 72 = .ok (.aload_n 0, 1) := by decide +kernel
theorem dX7_likely_73 : decode cX7_likely 73 = .ok (.aload_n 0, 1) := by decide +kernel
theorem dX7_likely_74 : decode cX7_likely 74 = .ok (.iload 4, 2) := by decide +kernel
theorem dX7_likely_76 : decode cX7_likely 76 = .ok (.aload_n 0, 1) := by decide +kernel
theorem dX7_likely_77 : decode cX7_likely 77 = .ok (.getfield 114, 3) := by decide +kernel
theorem dX7_likely_80 : decode cX7_likely 80 = .ok (.iload 4, 2) := by decide +kernel
theorem dX7_likely_82 : decode cX7_likely 82 = .ok (.iaload, 1) := by decide +kernel
theorem dX7_likely_83 : decode cX7_likely 83 = .ok (.invokevirtual 262, 3) := by decide +kernel
theorem dX7_likely_86 : decode cX7_likely 86 = .ok (.aload_n 0, 1) := by decide +kernel
theorem dX7_likely_87 : decode cX7_likely 87 = .ok (.iload 4, 2) := by decide +kernel
theorem dX7_likely_89 : decode cX7_likely 89 = .ok (.invokevirtual 258, 3) := by decide +kernel
theorem dX7_likely_92 : decode cX7_likely 92 = .ok (.iload_n 3, 1) := by decide +kernel
theorem dX7_likely_93 : decode cX7_likely 93 = .ok (.iconst 2, 1) := by decide +kernel
theorem dX7_likely_94 : decode cX7_likely 94 = .ok (.isub, 1) := by decide +kernel
theorem dX7_likely_95 : decode cX7_likely 95 = .ok (.invokevirtual 302, 3) := by decide +kernel
theorem dX7_likely_98 : decode cX7_likely 98 = .ok (.lreturn, 1) := by decide +kernel
set_option maxRecDepth 100000 in
theorem ggX7_allOf_X7_sumOf : GoodIn wsX7_allOf wsX7_sumOf := goodIn_r _ [5, 6, 12, 13, 14, 15, 16, 17, 18, 19, 20, 21, 22, 23, 24, 25, 26, 27, 28, 29, 30, 31, 32, 33, 34, 35, 36, 37, 38, 39, 40, 41, 42, 43, 44, 45, 46, 47, 48, 49, 50, 51, 52, 53, 54, 55, 56, 57, 58] rfl (by decide +kernel)
set_option maxRecDepth 100000 in
theorem gX7_allOf_X7_sumOf : GoodIn wsX7_allOf (wsV RX7 40 RX7 yX7_sumOf wsX7_sumOf) := goodIn_app (goodIn_of _ (by decide +kernel)) ggX7_allOf_X7_sumOf
set_option maxRecDepth 100000 in
theorem ggX7_allOf_X7_hundreds : GoodIn wsX7_allOf wsX7_hundreds := goodIn_r _ [10, 11] rfl (by decide +kernel)
set_option maxRecDepth 100000 in
theorem gX7_allOf_X7_hundreds : GoodIn wsX7_allOf (wsV RX7 308 RX7 yX7_hundreds wsX7_hundreds) := goodIn_app (goodIn_of _ (by decide +kernel)) ggX7_allOf_X7_hundreds
theorem dX7_allOf_0 : decode cX7_allOf 0 = .ok (.aload_n 0, 1) := by decide +kernel
theorem dX7_allOf_1 : decode cX7_allOf 1 = .ok (.iload_n 1, 1) := by decide +kernel
theorem dX7_allOf_2 : decode cX7_allOf 2 = .ok (.invokevirtual 40, 3) := by decide +kernel
theorem dX7_allOf_5 : decode cX7_allOf 5 = .ok (.i2l, 1) := by decide +kernel
theorem dX7_allOf_6 : decode cX7_allOf 6 = .ok (.aload_n 0, 1) := by decide +kernel
theorem dX7_allOf_7 : decode cX7_allOf 7 = .ok (.iconst 5, 1) := by decide +kernel
theorem dX7_allOf_8 : decode cX7_allOf 8 = .ok (.invokevirtual 308, 3) := by decide +kernel
theorem dX7_allOf_11 : decode cX7_allOf 11 = .ok (.lmul, 1) := by decide +kernel
theorem dX7_allOf_12 : decode cX7_allOf 12 = .ok (.lreturn, 1) := by decide +kernel
theorem dX7_ending_0 : decode cX7_ending 0 = .ok (.lconst 0, 1) := by decide +kernel
theorem dX7_ending_1 : decode cX7_ending 1 = .ok (.lstore_n 1, 1) := by decide +kernel
theorem dX7_ending_2 : decode cX7_ending 2 = .ok (.iconst 0, 1) := by decide +kernel
theorem dX7_ending_3 : decode cX7_ending 3 = .ok (.istore_n 3, 1) := by decide +kernel
theorem dX7_ending_4 : decode cX7_ending 4 = .ok (.iload_n 3, 1) := by decide +kernel
theorem dX7_ending_5 : decode cX7_ending 5 = .ok (.iconst 5, 1) := by decide +kernel
theorem dX7_ending_6 : decode cX7_ending 6 = .ok (.if_icmp .ge 48, 3) := by decide +kernel
theorem dX7_ending_9 : decode cX7_ending 9 = .ok (.lload_n 1, 1) := by decide +kernel
theorem dX7_ending_10 : decode cX7_ending 10 = .ok (.aload_n 0, 1) := by decide +kernel
theorem dX7_ending_11 : decode cX7_ending 11 = .ok (.getfield 110, 3) := by decide +kernel
theorem dX7_ending_14 : decode cX7_ending 14 = .ok (.bipush 25, 2) := by decide +kernel
theorem dX7_ending_16 : decode cX7_ending 16 = .ok (.iload_n 3, 1) := by decide +kernel
theorem dX7_ending_17 : decode cX7_ending 17 = .ok (.iadd, 1) := by decide +kernel
theorem dX7_ending_18 : decode cX7_ending 18 = .ok (.laload, 1) := by decide +kernel
theorem dX7_ending_19 : decode cX7_ending 19 = .ok (.aload_n 0, 1) := by decide +kernel
theorem dX7_ending_20 : decode cX7_ending 20 = .ok (.getfield 107, 3) := by decide +kernel
theorem dX7_ending_23 : decode cX7_ending 23 = .ok (.bipush 30, 2) := by decide +kernel
theorem dX7_ending_25 : decode cX7_ending 25 = .ok (.aload_n 0, 1) := by decide +kernel
theorem dX7_ending_26 : decode cX7_ending 26 = .ok (.getfield 114, 3) := by decide +kernel
theorem dX7_ending_29 : decode cX7_ending 29 = .ok (.iconst 5, 1) := by decide +kernel
theorem dX7_ending_30 : decode cX7_ending 30 = .ok (.iaload, 1) := by decide +kernel
theorem dX7_ending_31 : decode cX7_ending 31 = .ok (.imul, 1) := by decide +kernel
theorem dX7_ending_32 : decode cX7_ending 32 = .ok (.iconst 5, 1) := by decide +kernel
theorem dX7_ending_33 : decode cX7_ending 33 = .ok (.aload_n 0, 1) := by decide +kernel
theorem dX7_ending_34 : decode cX7_ending 34 = .ok (.getfield 117, 3) := by decide +kernel
theorem dX7_ending_37 : decode cX7_ending 37 = .ok (.iconst 5, 1) := by decide +kernel
theorem dX7_ending_38 : decode cX7_ending 38 = .ok (.iaload, 1) := by decide +kernel
theorem dX7_ending_39 : decode cX7_ending 39 = .ok (.imul, 1) := by decide +kernel
theorem dX7_ending_40 : decode cX7_ending 40 = .ok (.iadd, 1) := by decide +kernel
theorem dX7_ending_41 : decode cX7_ending 41 = .ok (.iload_n 3, 1) := by decide +kernel
theorem dX7_ending_42 : decode cX7_ending 42 = .ok (.iadd, 1) := by decide +kernel
theorem dX7_ending_43 : decode cX7_ending 43 = .ok (.iaload, 1) := by decide +kernel
theorem dX7_ending_44 : decode cX7_ending 44 = .ok (.i2l, 1) := by decide +kernel
theorem dX7_ending_45 : decode cX7_ending 45 = .ok (.lmul, 1) := by decide +kernel
theorem dX7_ending_46 : decode cX7_ending 46 = .ok (.ladd, 1) := by decide +kernel
theorem dX7_ending_47 : decode cX7_ending 47 = .ok (.lstore_n 1, 1) := by decide +kernel
theorem dX7_ending_48 : decode cX7_ending 48 = .ok (.iinc 3 1, 3) := by decide +kernel
theorem dX7_ending_51 : decode cX7_ending 51 = .ok (.goto (-47), 3) := by decide +kernel
theorem dX7_ending_54 : decode cX7_ending 54 = .ok (.lload_n 1, 1) := by decide +kernel
theorem dX7_ending_55 : decode cX7_ending 55 = .ok (.lreturn, 1) := by decide +kernel
set_option maxRecDepth 100000 in
theorem ggX7_meanOf_X7_go : GoodIn wsX7_meanOf wsX7_go := goodIn_r _ [6, 7, 8, 9, 10, 5, 11, 12, 13, 14, 15, 16, 17, 18, 19, 20, 21, 22, 23, 24, 25, 26, 27, 28, 29, 30, 31, 32, 33, 34, 35, 36, 37, 38, 39, 40, 41, 42, 43, 44, 50, 51, 52, 53, 54, 55, 56, 57, 58, 59, 60, 61, 62, 63, 64, 65, 66, 67, 68, 69, 70, 71, 72, 73, 74, 75, 76, 77, 78, 79, 80, 81, 82, 83, 84, 85, 86, 87, 88, 89, 90, 91, 92, 93, 94, 95, 96] rfl (by decide +kernel)
set_option maxRecDepth 100000 in
theorem gX7_meanOf_X7_go : GoodIn wsX7_meanOf (wsV RX7 286 RX7 yX7_go wsX7_go) := goodIn_app (goodIn_of _ (by decide +kernel)) ggX7_meanOf_X7_go
set_option maxRecDepth 100000 in
theorem ggX7_meanOf_X7_sumRow : GoodIn wsX7_meanOf wsX7_sumRow := goodIn_r _ [32, 12, 50, 51, 52, 53, 54, 55, 56, 57, 58, 59, 60, 61, 62, 63, 64, 65, 66, 67, 68, 69, 70, 71, 72, 73, 74, 75, 76, 77, 78, 79, 80, 81, 82, 83, 84, 85, 86, 87, 88, 89, 90, 91, 92, 93, 94, 95, 96] rfl (by decide +kernel)
set_option maxRecDepth 100000 in
theorem gX7_meanOf_X7_sumRow : GoodIn wsX7_meanOf (wsV RX7 258 RX7 yX7_sumRow wsX7_sumRow) := goodIn_app (goodIn_of _ (by decide +kernel)) ggX7_meanOf_X7_sumRow
set_option maxRecDepth 100000 in
theorem ggX7_meanOf_X7_ending : GoodIn wsX7_meanOf wsX7_ending := goodIn_r _ [48, 12, 49, 14, 15, 50, 51, 52, 53, 54, 55, 56, 57, 58, 59, 60, 61, 62, 63, 64, 65, 66, 67, 68, 69, 70, 71, 72, 73, 74, 75, 76, 77, 78, 79, 80, 81, 82, 83, 84, 85, 86, 87, 88, 89, 90, 91, 92, 93, 94, 95, 96] rfl (by decide +kernel)
set_option maxRecDepth 100000 in
theorem gX7_meanOf_X7_ending : GoodIn wsX7_meanOf (wsV RX7 311 RX7 yX7_ending wsX7_ending) := goodIn_app (goodIn_of _ (by decide +kernel)) ggX7_meanOf_X7_ending
theorem dX7_meanOf_0 : decode cX7_meanOf 0 = .ok (.lconst 0, 1) := by decide +kernel
theorem dX7_meanOf_1 : decode cX7_meanOf 1 = .ok (.lstore 5, 2) := by decide +kernel
theorem dX7_meanOf_3 : decode cX7_meanOf 3 = .ok (.aload_n 0, 1) := by decide +kernel
theorem dX7_meanOf_4 : decode cX7_meanOf 4 = .ok (.lconst 0, 1) := by decide +kernel
theorem dX7_meanOf_5 : decode cX7_meanOf 5 = .ok (.putfield 127, 3) := by decide +kernel
theorem dX7_meanOf_8 : decode cX7_meanOf 8 = .ok (.iconst 0, 1) := by decide +kernel
theorem dX7_meanOf_9 : decode cX7_meanOf 9 = .ok (.istore 7, 2) := by decide +kernel
theorem dX7_meanOf_11 : decode cX7_meanOf 11 = .ok (.iload 7, 2) := by decide +kernel
theorem dX7_meanOf_13 : decode cX7_meanOf 13 = .ok (.bipush 32, 2) := by decide +kernel
theorem dX7_meanOf_15 : decode cX7_meanOf 15 = .ok (.if_icmp .ge 78, 3) := by decide +kernel
theorem dX7_meanOf_18 : decode cX7_meanOf 18 = .ok (.aload_n 0, 1) := by decide +kernel
theorem dX7_meanOf_19 : decode cX7_meanOf 19 = .ok (.iload_n 1, 1) := by decide +kernel
theorem dX7_meanOf_20 : decode cX7_meanOf 20 = .ok (.iload_n 2, 1) := by decide +kernel
theorem dX7_meanOf_21 : decode cX7_meanOf 21 = .ok (.iload_n 3, 1) := by decide +kernel
theorem dX7_meanOf_22 : decode cX7_meanOf 22 = .ok (.iload 4, 2) := by decide +kernel
theorem dX7_meanOf_24 : decode cX7_meanOf 24 = .ok (.iconst 5, 1) := by decide +kernel
theorem dX7_meanOf_25 : decode cX7_meanOf 25 = .ok (.iload 7, 2) := by decide +kernel
theorem dX7_meanOf_27 : decode cX7_meanOf 27 = .ok (.invokevirtual 286, 3) := by decide +kernel
theorem dX7_meanOf_30 : decode cX7_meanOf 30 = .ok (.iconst 0, 1) := by decide +kernel
theorem dX7_meanOf_31 : decode cX7_meanOf 31 = .ok (.istore 8, 2) := by decide +kernel
theorem dX7_meanOf_33 : decode cX7_meanOf 33 = .ok (.iconst 0, 1) := by decide +kernel
theorem dX7_meanOf_34 : decode cX7_meanOf 34 = .ok (.istore 9, 2) := by decide +kernel
theorem dX7_meanOf_36 : decode cX7_meanOf 36 = .ok (.iload 9, 2) := by decide +kernel
theorem dX7_meanOf_38 : decode cX7_meanOf 38 = .ok (.iconst 5, 1) := by decide +kernel
theorem dX7_meanOf_39 : decode cX7_meanOf 39 = .ok (.if_icmp .ge 21, 3) := by decide +kernel
theorem dX7_meanOf_42 : decode cX7_meanOf 42 = .ok (.iload 8, 2) := by decide +kernel
theorem dX7_meanOf_44 : decode cX7_meanOf 44 = .ok (.iload 7, 2) := by decide +kernel
theorem dX7_meanOf_46 : decode cX7_meanOf 46 = .ok (.iload 9, 2) := by decide +kernel
theorem dX7_meanOf_48 : decode cX7_meanOf 48 = .ok (.ishr, 1) := by decide +kernel
theorem dX7_meanOf_49 : decode cX7_meanOf 49 = .ok (.iconst 1, 1) := by decide +kernel
theorem dX7_meanOf_50 : decode cX7_meanOf 50 = .ok (.iand, 1) := by decide +kernel
theorem dX7_meanOf_51 : decode cX7_meanOf 51 = .ok (.iadd, 1) := by decide +kernel
theorem dX7_meanOf_52 : decode cX7_meanOf 52 = .ok (.istore 8, 2) := by decide +kernel
theorem dX7_meanOf_54 : decode cX7_meanOf 54 = .ok (.iinc 9 1, 3) := by decide +kernel
theorem dX7_meanOf_57 : decode cX7_meanOf 57 = .ok (.goto (-21), 3) := by decide +kernel
theorem dX7_meanOf_60 : decode cX7_meanOf 60 = .ok (.aload_n 0, 1) := by decide +kernel
theorem dX7_meanOf_61 : decode cX7_meanOf 61 = .ok (.dup, 1) := by decide +kernel
theorem dX7_meanOf_62 : decode cX7_meanOf 62 = .ok (.getfield 127, 3) := by decide +kernel
theorem dX7_meanOf_65 : decode cX7_meanOf 65 = .ok (.iload 8, 2) := by decide +kernel
theorem dX7_meanOf_67 : decode cX7_meanOf 67 = .ok (.i2l, 1) := by decide +kernel
theorem dX7_meanOf_68 : decode cX7_meanOf 68 = .ok (.aload_n 0, 1) := by decide +kernel
theorem dX7_meanOf_69 : decode cX7_meanOf 69 = .ok (.iconst 5, 1) := by decide +kernel
theorem dX7_meanOf_70 : decode cX7_meanOf 70 = .ok (.invokevirtual 258, 3) := by decide +kernel
theorem dX7_meanOf_73 : decode cX7_meanOf 73 = .ok (.lmul, 1) := by decide +kernel
theorem dX7_meanOf_74 : decode cX7_meanOf 74 = .ok (.ladd, 1) := by decide +kernel
theorem dX7_meanOf_75 : decode cX7_meanOf 75 = .ok (.putfield 127, 3) := by decide +kernel
theorem dX7_meanOf_78 : decode cX7_meanOf 78 = .ok (.lload 5, 2) := by decide +kernel
theorem dX7_meanOf_80 : decode cX7_meanOf 80 = .ok (.aload_n 0, 1) := by decide +kernel
theorem dX7_meanOf_81 : decode cX7_meanOf 81 = .ok (.invokevirtual 311, 3) := by decide +kernel
theorem dX7_meanOf_84 : decode cX7_meanOf 84 = .ok (.ladd, 1) := by decide +kernel
theorem dX7_meanOf_85 : decode cX7_meanOf 85 = .ok (.lstore 5, 2) := by decide +kernel
theorem dX7_meanOf_87 : decode cX7_meanOf 87 = .ok (.iinc 7 1, 3) := by decide +kernel
theorem dX7_meanOf_90 : decode cX7_meanOf 90 = .ok (.goto (-79), 3) := by decide +kernel
theorem dX7_meanOf_93 : decode cX7_meanOf 93 = .ok (.lload 5, 2) := by decide +kernel
theorem dX7_meanOf_95 : decode cX7_meanOf 95 = .ok (.lreturn, 1) := by decide +kernel
theorem dX7_enter_0 : decode cX7_enter 0 = .ok (.aload_n 0, 1) := by decide +kernel
theorem dX7_enter_1 : decode cX7_enter 1 = .ok (.getfield 131, 3) := by decide +kernel
theorem dX7_enter_4 : decode cX7_enter 4 = .ok (.iload_n 1, 1) := by decide +kernel
theorem dX7_enter_5 : decode cX7_enter 5 = .ok (.iconst 0, 1) := by decide +kernel
theorem dX7_enter_6 : decode cX7_enter 6 = .ok (.iastore, 1) := by decide +kernel
theorem dX7_enter_7 : decode cX7_enter 7 = .ok (.aload_n 0, 1) := by decide +kernel
theorem dX7_enter_8 : decode cX7_enter 8 = .ok (.getfield 134, 3) := by decide +kernel
theorem dX7_enter_11 : decode cX7_enter 11 = .ok (.iload_n 1, 1) := by decide +kernel
theorem dX7_enter_12 : decode cX7_enter 12 = .ok (.iconst (-1), 1) := by decide +kernel
theorem dX7_enter_13 : decode cX7_enter 13 = .ok (.iastore, 1) := by decide +kernel
theorem dX7_enter_14 : decode cX7_enter 14 = .ok (.aload_n 0, 1) := by decide +kernel
theorem dX7_enter_15 : decode cX7_enter 15 = .ok (.getfield 137, 3) := by decide +kernel
theorem dX7_enter_18 : decode cX7_enter 18 = .ok (.iload_n 1, 1) := by decide +kernel
theorem dX7_enter_19 : decode cX7_enter 19 = .ok (.ldc2_w 315, 3) := by decide +kernel
theorem dX7_enter_22 : decode cX7_enter 22 = .ok (.lastore, 1) := by decide +kernel
theorem dX7_enter_23 : decode cX7_enter 23 = .ok (.aload_n 0, 1) := by decide +kernel
theorem dX7_enter_24 : decode cX7_enter 24 = .ok (.getfield 140, 3) := by decide +kernel
theorem dX7_enter_27 : decode cX7_enter 27 = .ok (.iload_n 1, 1) := by decide +kernel
theorem dX7_enter_28 : decode cX7_enter 28 = .ok (.lconst 0, 1) := by decide +kernel
theorem dX7_enter_29 : decode cX7_enter 29 = .ok (.lastore, 1) := by decide +kernel
theorem dX7_enter_30 : decode cX7_enter 30 = .ok (.return_, 1) := by decide +kernel
set_option maxRecDepth 100000 in
theorem ggX7_bestOf_X7_begin : GoodIn wsX7_bestOf wsX7_begin := goodIn_r _ [11, 12, 13, 14, 15, 16, 17, 41, 42, 43, 44, 45, 46, 47, 48, 49, 50, 51, 52, 53, 54, 55, 56, 57, 58, 59, 60, 61, 62, 63, 64, 65, 66, 67, 68, 69, 70, 71, 72, 73, 74, 75, 76, 77, 78, 79, 80, 81, 82, 83, 84, 85, 86, 87] rfl (by decide +kernel)
set_option maxRecDepth 100000 in
theorem gX7_bestOf_X7_begin : GoodIn wsX7_bestOf (wsV RX7 270 RX7 yX7_begin wsX7_begin) := goodIn_app (goodIn_of _ (by decide +kernel)) ggX7_bestOf_X7_begin
set_option maxRecDepth 100000 in
theorem ggX7_bestOf_X7_enter : GoodIn wsX7_bestOf wsX7_enter := goodIn_r _ [21, 3, 2, 5, 6, 4, 41, 42, 43, 44, 45, 46, 47, 48, 49, 50, 51, 52, 53, 54, 55, 56, 57, 58, 59, 60, 61, 62, 63, 64, 65, 66, 67, 68, 69, 70, 71, 72, 73, 74, 75, 76, 77, 78, 79, 80, 81, 82, 83, 84, 85, 86, 87] rfl (by decide +kernel)
set_option maxRecDepth 100000 in
theorem gX7_bestOf_X7_enter : GoodIn wsX7_bestOf (wsV RX7 317 RX7 yX7_enter wsX7_enter) := goodIn_app (goodIn_of _ (by decide +kernel)) ggX7_bestOf_X7_enter
set_option maxRecDepth 100000 in
theorem ggX7_bestOf_X7_goWeek : GoodIn wsX7_bestOf wsX7_goWeek := goodIn_r _ [25, 14, 15, 12, 26, 27, 41, 42, 43, 44, 45, 46, 47, 48, 49, 50, 51, 52, 53, 54, 55, 56, 57, 58, 59, 60, 61, 62, 63, 64, 65, 66, 67, 68, 69, 70, 71, 72, 73, 74, 75, 76, 77, 78, 79, 80, 81, 82, 83, 84, 85, 86, 87] rfl (by decide +kernel)
set_option maxRecDepth 100000 in
theorem gX7_bestOf_X7_goWeek : GoodIn wsX7_bestOf (wsV RX7 273 RX7 yX7_goWeek wsX7_goWeek) := goodIn_app (goodIn_of _ (by decide +kernel)) ggX7_bestOf_X7_goWeek
set_option maxRecDepth 100000 in
theorem ggX7_bestOf_X7_move : GoodIn wsX7_bestOf wsX7_move := goodIn_r _ [31, 14, 16, 15, 32, 33, 34, 10, 35, 41, 42, 43, 44, 45, 46, 47, 48, 49, 50, 51, 52, 53, 54, 55, 56, 57, 58, 59, 60, 61, 62, 63, 64, 65, 66, 67, 68, 69, 70, 71, 72, 73, 74, 75, 76, 77, 78, 79, 80, 81, 82, 83, 84, 85, 86, 87] rfl (by decide +kernel)
set_option maxRecDepth 100000 in
theorem gX7_bestOf_X7_move : GoodIn wsX7_bestOf (wsV RX7 280 RX7 yX7_move wsX7_move) := goodIn_app (goodIn_of _ (by decide +kernel)) ggX7_bestOf_X7_move
set_option maxRecDepth 100000 in
theorem ggX7_bestOf_X7_ending : GoodIn wsX7_bestOf wsX7_ending := goodIn_r _ [39, 12, 40, 14, 15, 41, 42, 43, 44, 45, 46, 47, 48, 49, 50, 51, 52, 53, 54, 55, 56, 57, 58, 59, 60, 61, 62, 63, 64, 65, 66, 67, 68, 69, 70, 71, 72, 73, 74, 75, 76, 77, 78, 79, 80, 81, 82, 83, 84, 85, 86, 87] rfl (by decide +kernel)
set_option maxRecDepth 100000 in
theorem gX7_bestOf_X7_ending : GoodIn wsX7_bestOf (wsV RX7 311 RX7 yX7_ending wsX7_ending) := goodIn_app (goodIn_of _ (by decide +kernel)) ggX7_bestOf_X7_ending
theorem dX7_bestOf_0 : decode cX7_bestOf 0 = .ok (.aload_n 0, 1) := by decide +kernel
theorem dX7_bestOf_1 : decode cX7_bestOf 1 = .ok (.iload_n 1, 1) := by decide +kernel
theorem dX7_bestOf_2 : decode cX7_bestOf 2 = .ok (.aload_n 0, 1) := by decide +kernel
theorem dX7_bestOf_3 : decode cX7_bestOf 3 = .ok (.getfield 15, 3) := by decide +kernel
theorem dX7_bestOf_6 : decode cX7_bestOf 6 = .ok (.iload_n 1, 1) := by decide +kernel
theorem dX7_bestOf_7 : decode cX7_bestOf 7 = .ok (.iaload, 1) := by decide +kernel
theorem dX7_bestOf_8 : decode cX7_bestOf 8 = .ok (.invokevirtual 270, 3) := by decide +kernel
theorem dX7_bestOf_11 : decode cX7_bestOf 11 = .ok (.iconst 0, 1) := by decide +kernel
theorem dX7_bestOf_12 : decode cX7_bestOf 12 = .ok (.istore_n 2, 1) := by decide +kernel
theorem dX7_bestOf_13 : decode cX7_bestOf 13 = .ok (.aload_n 0, 1) := by decide +kernel
theorem dX7_bestOf_14 : decode cX7_bestOf 14 = .ok (.iconst 0, 1) := by decide +kernel
theorem dX7_bestOf_15 : decode cX7_bestOf 15 = .ok (.invokevirtual 317, 3) := by decide +kernel
theorem dX7_bestOf_18 : decode cX7_bestOf 18 = .ok (.iload_n 2, 1) := by decide +kernel
theorem dX7_bestOf_19 : decode cX7_bestOf 19 = .ok (.iconst 5, 1) := by decide +kernel
theorem dX7_bestOf_20 : decode cX7_bestOf 20 = .ok (.if_icmp .ge 56, 3) := by decide +kernel
theorem dX7_bestOf_23 : decode cX7_bestOf 23 = .ok (.aload_n 0, 1) := by decide +kernel
theorem dX7_bestOf_24 : decode cX7_bestOf 24 = .ok (.getfield 134, 3) := by decide +kernel
theorem dX7_bestOf_27 : decode cX7_bestOf 27 = .ok (.iload_n 2, 1) := by decide +kernel
theorem dX7_bestOf_28 : decode cX7_bestOf 28 = .ok (.iaload, 1) := by decide +kernel
theorem dX7_bestOf_29 : decode cX7_bestOf 29 = .ok (.iconst 2, 1) := by decide +kernel
theorem dX7_bestOf_30 : decode cX7_bestOf 30 = .ok (.if_icmp .ge 46, 3) := by decide +kernel
theorem dX7_bestOf_33 : decode cX7_bestOf 33 = .ok (.aload_n 0, 1) := by decide +kernel
theorem dX7_bestOf_34 : decode cX7_bestOf 34 = .ok (.iload_n 2, 1) := by decide +kernel
theorem dX7_bestOf_35 : decode cX7_bestOf 35 = .ok (.aload_n 0, 1) := by decide +kernel
theorem dX7_bestOf_36 : decode cX7_bestOf 36 = .ok (.getfield 131, 3) := by decide +kernel
theorem dX7_bestOf_39 : decode cX7_bestOf 39 = .ok (.iload_n 2, 1) := by decide +kernel
theorem dX7_bestOf_40 : decode cX7_bestOf 40 = .ok (.iaload, 1) := by decide +kernel
theorem dX7_bestOf_41 : decode cX7_bestOf 41 = .ok (.invokevirtual 273, 3) := by decide +kernel
theorem dX7_bestOf_44 : decode cX7_bestOf 44 = .ok (.aload_n 0, 1) := by decide +kernel
theorem dX7_bestOf_45 : decode cX7_bestOf 45 = .ok (.iload_n 2, 1) := by decide +kernel
theorem dX7_bestOf_46 : decode cX7_bestOf 46 = .ok (.aload_n 0, 1) := by decide +kernel
theorem dX7_bestOf_47 : decode cX7_bestOf 47 = .ok (.getfield 134, 3) := by decide +kernel
theorem dX7_bestOf_50 : decode cX7_bestOf 50 = .ok (.iload_n 2, 1) := by decide +kernel
theorem dX7_bestOf_51 : decode cX7_bestOf 51 = .ok (.iaload, 1) := by decide +kernel
theorem dX7_bestOf_52 : decode cX7_bestOf 52 = .ok (.invokevirtual 280, 3) := by decide +kernel
theorem dX7_bestOf_55 : decode cX7_bestOf 55 = .ok (.aload_n 0, 1) := by decide +kernel
theorem dX7_bestOf_56 : decode cX7_bestOf 56 = .ok (.getfield 134, 3) := by decide +kernel
theorem dX7_bestOf_59 : decode cX7_bestOf 59 = .ok (.iload_n 2, 1) := by decide +kernel
theorem dX7_bestOf_60 : decode cX7_bestOf 60 = .ok (.dup2, 1) := by decide +kernel
theorem dX7_bestOf_61 : decode cX7_bestOf 61 = .ok (.iaload, 1) := by decide +kernel
theorem dX7_bestOf_62 : decode cX7_bestOf 62 = .ok (.iconst 1, 1) := by decide +kernel
theorem dX7_bestOf_63 : decode cX7_bestOf 63 = .ok (.iadd, 1) := by decide +kernel
theorem dX7_bestOf_64 : decode cX7_bestOf 64 = .ok (.iastore, 1) := by decide +kernel
theorem dX7_bestOf_65 : decode cX7_bestOf 65 = .ok (.iinc 2 1, 3) := by decide +kernel
theorem dX7_bestOf_68 : decode cX7_bestOf 68 = .ok (.aload_n 0, 1) := by decide +kernel
theorem dX7_bestOf_69 : decode cX7_bestOf 69 = .ok (.iload_n 2, 1) := by decide +kernel
theorem dX7_bestOf_70 : decode cX7_bestOf 70 = .ok (.invokevirtual 317, 3) := by decide +kernel
theorem dX7_bestOf_73 : decode cX7_bestOf 73 = .ok (.goto (-55), 3) := by decide +kernel
theorem dX7_bestOf_76 : decode cX7_bestOf 76 = .ok (.iload_n 2, 1) := by decide +kernel
theorem dX7_bestOf_77 : decode cX7_bestOf 77 = .ok (.iconst 5, 1) := by decide +kernel
theorem dX7_bestOf_78 : decode cX7_bestOf 78 = .ok (.if_icmp .ge 57, 3) := by decide +kernel
theorem dX7_bestOf_81 : decode cX7_bestOf 81 = .ok (.aload_n 0, 1) := by decide +kernel
theorem dX7_bestOf_82 : decode cX7_bestOf 82 = .ok (.getfield 140, 3) := by decide +kernel
theorem dX7_bestOf_85 : decode cX7_bestOf 85 = .ok (.iload_n 2, 1) := by decide +kernel
theorem dX7_bestOf_86 : decode cX7_bestOf 86 = .ok (.dup2, 1) := by decide +kernel
theorem dX7_bestOf_87 : decode cX7_bestOf 87 = .ok (.laload, 1) := by decide +kernel
theorem dX7_bestOf_88 : decode cX7_bestOf 88 = .ok (.aload_n 0, 1) := by decide +kernel
theorem dX7_bestOf_89 : decode cX7_bestOf 89 = .ok (.getfield 137, 3) := by decide +kernel
theorem dX7_bestOf_92 : decode cX7_bestOf 92 = .ok (.iload_n 2, 1) := by decide +kernel
theorem dX7_bestOf_93 : decode cX7_bestOf 93 = .ok (.laload, 1) := by decide +kernel
theorem dX7_bestOf_94 : decode cX7_bestOf 94 = .ok (.ladd, 1) := by decide +kernel
theorem dX7_bestOf_95 : decode cX7_bestOf 95 = .ok (.lastore, 1) := by decide +kernel
theorem dX7_bestOf_96 : decode cX7_bestOf 96 = .ok (.aload_n 0, 1) := by decide +kernel
theorem dX7_bestOf_97 : decode cX7_bestOf 97 = .ok (.getfield 131, 3) := by decide +kernel
theorem dX7_bestOf_100 : decode cX7_bestOf 100 = .ok (.iload_n 2, 1) := by decide +kernel

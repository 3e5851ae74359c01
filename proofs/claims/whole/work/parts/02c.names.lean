theorem dX3_advance_103 : decode cX3_advance 103 = .ok (.aload_n 0, 1) := by decide +kernel
theorem dX3_advance_104 : decode cX3_advance 104 = .ok (.aload_n 0, 1) := by decide +kernel
theorem dX3_advance_105 : decode cX3_advance 105 = .ok (.invokevirtual 105, 3) := by decide +kernel
theorem dX3_advance_108 : decode cX3_advance 108 = .ok (.putfield 18, 3) := by decide +kernel
theorem dX3_advance_111 : decode cX3_advance 111 = .ok (.goto 71, 3) := by decide +kernel
theorem dX3_advance_114 : decode cX3_advance 114 = .ok (.aload_n 0, 1) := by decide +kernel
theorem dX3_advance_115 : decode cX3_advance 115 = .ok (.getfield 40, 3) := by decide +kernel
theorem dX3_advance_118 : decode cX3_advance 118 = .ok (.aload_n 0, 1) := by decide +kernel
theorem dX3_advance_119 : decode cX3_advance 119 = .ok (.getfield 15, 3) := by decide +kernel
theorem dX3_advance_122 : decode cX3_advance 122 = .ok (.baload, 1) := by decide +kernel
theorem dX3_advance_123 : decode cX3_advance 123 = .ok (.invokestatic 109, 3) := by decide +kernel
theorem dX3_advance_126 : decode cX3_advance 126 = .ok (.ifCond .eq 14, 3) := by decide +kernel
theorem dX3_advance_129 : decode cX3_advance 129 = .ok (.aload_n 0, 1) := by decide +kernel
theorem dX3_advance_130 : decode cX3_advance 130 = .ok (.aload_n 0, 1) := by decide +kernel
theorem dX3_advance_131 : decode cX3_advance 131 = .ok (.invokevirtual 112, 3) := by decide +kernel
theorem dX3_advance_134 : decode cX3_advance 134 = .ok (.putfield 18, 3) := by decide +kernel
theorem dX3_advance_137 : decode cX3_advance 137 = .ok (.goto 45, 3) := by decide +kernel
theorem dX3_advance_140 : decode cX3_advance 140 = .ok (.aload_n 0, 1) := by decide +kernel
theorem dX3_advance_141 : decode cX3_advance 141 = .ok (.aload_n 0, 1) := by decide +kernel
theorem dX3_advance_142 : decode cX3_advance 142 = .ok (.getfield 40, 3) := by decide +kernel
theorem dX3_advance_145 : decode cX3_advance 145 = .ok (.aload_n 0, 1) := by decide +kernel
theorem dX3_advance_146 : decode cX3_advance 146 = .ok (.getfield 15, 3) := by decide +kernel
theorem dX3_advance_149 : decode cX3_advance 149 = .ok (.baload, 1) := by decide +kernel
theorem dX3_advance_150 : decode cX3_advance 150 = .ok (.invokestatic 115, 3) := by decide +kernel
theorem dX3_advance_153 : decode cX3_advance 153 = .ok (.ifCond .eq 15, 3) := by decide +kernel
theorem dX3_advance_156 : decode cX3_advance 156 = .ok (.aload_n 0, 1) := by decide +kernel
theorem dX3_advance_157 : decode cX3_advance 157 = .ok (.getfield 40, 3) := by decide +kernel
theorem dX3_advance_160 : decode cX3_advance 160 = .ok (.aload_n 0, 1) := by decide +kernel
theorem dX3_advance_161 : decode cX3_advance 161 = .ok (.getfield 15, 3) := by decide +kernel
theorem dX3_advance_164 : decode cX3_advance 164 = .ok (.baload, 1) := by decide +kernel
theorem dX3_advance_165 : decode cX3_advance 165 = .ok (.goto 4, 3) := by decide +kernel
theorem dX3_advance_168 : decode cX3_advance 168 = .ok (.iconst (-1), 1) := by decide +kernel
theorem dX3_advance_169 : decode cX3_advance 169 = .ok (.putfield 18, 3) := by decide +kernel
theorem dX3_advance_172 : decode cX3_advance 172 = .ok (.aload_n 0, 1) := by decide +kernel
theorem dX3_advance_173 : decode cX3_advance 173 = .ok (.dup, 1) := by decide +kernel
theorem dX3_advance_174 : decode cX3_advance 174 = .ok (.getfield 15, 3) := by decide +kernel
theorem dX3_advance_177 : decode cX3_advance 177 = .ok (.iconst 1, 1) := by decide +kernel
theorem dX3_advance_178 : decode cX3_advance 178 = .ok (.iadd, 1) := by decide +kernel
theorem dX3_advance_179 : decode cX3_advance 179 = .ok (.putfield 15, 3) := by decide +kernel
theorem dX3_advance_182 : decode cX3_advance 182 = .ok (.return_, 1) := by decide +kernel
set_option maxRecDepth 100000 in
theorem ggX3_word_X3_isLetter : GoodIn wsX3_word wsX3_isLetter := goodIn_r _ [7] rfl (by decide +kernel)
set_option maxRecDepth 100000 in
theorem gX3_word_X3_isLetter : GoodIn wsX3_word (va_wsS RX3 101 yX3_isLetter wsX3_isLetter) := goodIn_app (goodIn_of _ (by decide +kernel)) ggX3_word_X3_isLetter
set_option maxRecDepth 100000 in
theorem ggX3_word_X3_spelt : GoodIn wsX3_word wsX3_spelt := goodIn_r _ [11, 1, 3, 12, 13, 14, 15, 16, 17, 18, 19, 20, 21, 22, 23, 24, 25, 26, 27, 28, 29, 30, 31, 32, 33, 34, 35, 36, 37, 38, 39, 40, 41, 42, 43, 44, 45, 46, 47, 48, 49, 50, 51, 52, 53, 54, 55, 56, 57, 58, 59, 60, 61, 62, 63, 64, 65, 66, 67, 68, 69, 70] rfl (by decide +kernel)
set_option maxRecDepth 100000 in
theorem gX3_word_X3_spelt : GoodIn wsX3_word (wsV RX3 118 RX3 yX3_spelt wsX3_spelt) := goodIn_app (goodIn_of _ (by decide +kernel)) ggX3_word_X3_spelt
theorem dX3_word_0 : decode cX3_word 0 = .ok (.aload_n 0, 1) := by decide +kernel
theorem dX3_word_1 : decode cX3_word 1 = .ok (.getfield 15, 3) := by decide +kernel
theorem dX3_word_4 : decode cX3_word 4 = .ok (.istore_n 1, 1) := by decide +kernel
theorem dX3_word_5 : decode cX3_word 5 = .ok (.aload_n 0, 1) := by decide +kernel
theorem dX3_word_6 : decode cX3_word 6 = .ok (.getfield 15, 3) := by decide +kernel
theorem dX3_word_9 : decode cX3_word 9 = .ok (.aload_n 0, 1) := by decide +kernel
theorem dX3_word_10 : decode cX3_word 10 = .ok (.getfield 11, 3) := by decide +kernel
theorem dX3_word_13 : decode cX3_word 13 = .ok (.if_icmp .ge 31, 3) := by decide +kernel
theorem dX3_word_16 : decode cX3_word 16 = .ok (.aload_n 0, 1) := by decide +kernel
theorem dX3_word_17 : decode cX3_word 17 = .ok (.getfield 40, 3) := by decide +kernel
theorem dX3_word_20 : decode cX3_word 20 = .ok (.aload_n 0, 1) := by decide +kernel
theorem dX3_word_21 : decode cX3_word 21 = .ok (.getfield 15, 3) := by decide +kernel
theorem dX3_word_24 : decode cX3_word 24 = .ok (.baload, 1) := by decide +kernel
theorem dX3_word_25 : decode cX3_word 25 = .ok (.invokestatic 101, 3) := by decide +kernel
theorem dX3_word_28 : decode cX3_word 28 = .ok (.ifCond .eq 16, 3) := by decide +kernel
theorem dX3_word_31 : decode cX3_word 31 = .ok (.aload_n 0, 1) := by decide +kernel
theorem dX3_word_32 : decode cX3_word 32 = .ok (.dup, 1) := by decide +kernel
theorem dX3_word_33 : decode cX3_word 33 = .ok (.getfield 15, 3) := by decide +kernel
theorem dX3_word_36 : decode cX3_word 36 = .ok (.iconst 1, 1) := by decide +kernel
theorem dX3_word_37 : decode cX3_word 37 = .ok (.iadd, 1) := by decide +kernel
theorem dX3_word_38 : decode cX3_word 38 = .ok (.putfield 15, 3) := by decide +kernel
theorem dX3_word_41 : decode cX3_word 41 = .ok (.goto (-36), 3) := by decide +kernel
theorem dX3_word_44 : decode cX3_word 44 = .ok (.aload_n 0, 1) := by decide +kernel
theorem dX3_word_45 : decode cX3_word 45 = .ok (.iload_n 1, 1) := by decide +kernel
theorem dX3_word_46 : decode cX3_word 46 = .ok (.invokevirtual 118, 3) := by decide +kernel
theorem dX3_word_49 : decode cX3_word 49 = .ok (.ireturn, 1) := by decide +kernel
set_option maxRecDepth 100000 in
theorem ggX3_spelt_J0_length_8abf5 : GoodIn wsX3_spelt wsJ0_length_8abf5 := goodIn_r _ [7, 8, 9, 10, 11, 6, 12, 13, 14] rfl (by decide +kernel)
set_option maxRecDepth 100000 in
theorem gX3_spelt_J0_length_8abf5 : GoodIn wsX3_spelt (wsV RX3 124 RJ0 yJ0_length_8abf5 wsJ0_length_8abf5) := goodIn_app (goodIn_of _ (by decide +kernel)) ggX3_spelt_J0_length_8abf5
set_option maxRecDepth 100000 in
theorem ggX3_spelt_J0_charAt_5068e : GoodIn wsX3_spelt wsJ0_charAt_5068e := goodIn_r _ [18, 8, 19, 20, 21, 6, 22, 13, 14, 23, 24, 25, 26, 27, 28, 29, 30, 31, 32, 33, 34, 35, 36, 37, 38, 39, 40, 41, 42, 43, 44, 45, 46, 47, 48, 49, 50, 51] rfl (by decide +kernel)
set_option maxRecDepth 100000 in
theorem gX3_spelt_J0_charAt_5068e : GoodIn wsX3_spelt (wsV RX3 128 RJ0 yJ0_charAt_5068e wsJ0_charAt_5068e) := goodIn_app (goodIn_of _ (by decide +kernel)) ggX3_spelt_J0_charAt_5068e
theorem dX3_spelt_0 : decode cX3_spelt 0 = .ok (.sipush 256, 3) := by decide +kernel
theorem dX3_spelt_3 : decode cX3_spelt 3 = .ok (.istore_n 2, 1) := by decide +kernel
theorem dX3_spelt_4 : decode cX3_spelt 4 = .ok (.iload_n 1, 1) := by decide +kernel
theorem dX3_spelt_5 : decode cX3_spelt 5 = .ok (.istore_n 3, 1) := by decide +kernel
theorem dX3_spelt_6 : decode cX3_spelt 6 = .ok (.iconst 1, 1) := by decide +kernel
theorem dX3_spelt_7 : decode cX3_spelt 7 = .ok (.istore 4, 2) := by decide +kernel
theorem dX3_spelt_9 : decode cX3_spelt 9 = .ok (.iconst 0, 1) := by decide +kernel
theorem dX3_spelt_10 : decode cX3_spelt 10 = .ok (.istore 5, 2) := by decide +kernel
theorem dX3_spelt_12 : decode cX3_spelt 12 = .ok (.iload 5, 2) := by decide +kernel
theorem dX3_spelt_14 : decode cX3_spelt 14 = .ok (.ldc 122, 2) := by decide +kernel
theorem dX3_spelt_16 : decode cX3_spelt 16 = .ok (.invokevirtual 124, 3) := by decide +kernel
theorem dX3_spelt_19 : decode cX3_spelt 19 = .ok (.if_icmp .ge 84, 3) := by decide +kernel
theorem dX3_spelt_22 : decode cX3_spelt 22 = .ok (.ldc 122, 2) := by decide +kernel
theorem dX3_spelt_24 : decode cX3_spelt 24 = .ok (.iload 5, 2) := by decide +kernel
theorem dX3_spelt_26 : decode cX3_spelt 26 = .ok (.invokevirtual 128, 3) := by decide +kernel
theorem dX3_spelt_29 : decode cX3_spelt 29 = .ok (.istore 6, 2) := by decide +kernel
theorem dX3_spelt_31 : decode cX3_spelt 31 = .ok (.iload 6, 2) := by decide +kernel
theorem dX3_spelt_33 : decode cX3_spelt 33 = .ok (.bipush 32, 2) := by decide +kernel
theorem dX3_spelt_35 : decode cX3_spelt 35 = .ok (.if_icmp .ne 29, 3) := by decide +kernel
theorem dX3_spelt_38 : decode cX3_spelt 38 = .ok (.iload 4, 2) := by decide +kernel
theorem dX3_spelt_40 : decode cX3_spelt 40 = .ok (.ifCond .eq 13, 3) := by decide +kernel
theorem dX3_spelt_43 : decode cX3_spelt 43 = .ok (.iload_n 3, 1) := by decide +kernel
theorem dX3_spelt_44 : decode cX3_spelt 44 = .ok (.aload_n 0, 1) := by decide +kernel
theorem dX3_spelt_45 : decode cX3_spelt 45 = .ok (.getfield 15, 3) := by decide +kernel
theorem dX3_spelt_48 : decode cX3_spelt 48 = .ok (.if_icmp .ne 5, 3) := by decide +kernel
theorem dX3_spelt_51 : decode cX3_spelt 51 = .ok (.iload_n 2, 1) := by decide +kernel
theorem dX3_spelt_52 : decode cX3_spelt 52 = .ok (.ireturn, 1) := by decide +kernel
theorem dX3_spelt_53 : decode cX3_spelt 53 = .ok (.iinc 2 1, 3) := by decide +kernel
theorem dX3_spelt_56 : decode cX3_spelt 56 = .ok (.iload_n 1, 1) := by decide +kernel
theorem dX3_spelt_57 : decode cX3_spelt 57 = .ok (.istore_n 3, 1) := by decide +kernel
theorem dX3_spelt_58 : decode cX3_spelt 58 = .ok (.iconst 1, 1) := by decide +kernel
theorem dX3_spelt_59 : decode cX3_spelt 59 = .ok (.istore 4, 2) := by decide +kernel
theorem dX3_spelt_61 : decode cX3_spelt 61 = .ok (.goto 36, 3) := by decide +kernel
theorem dX3_spelt_64 : decode cX3_spelt 64 = .ok (.iload 4, 2) := by decide +kernel
theorem dX3_spelt_66 : decode cX3_spelt 66 = .ok (.ifCond .eq 28, 3) := by decide +kernel
theorem dX3_spelt_69 : decode cX3_spelt 69 = .ok (.iload_n 3, 1) := by decide +kernel
theorem dX3_spelt_70 : decode cX3_spelt 70 = .ok (.aload_n 0, 1) := by decide +kernel
theorem dX3_spelt_71 : decode cX3_spelt 71 = .ok (.getfield 15, 3) := by decide +kernel
theorem dX3_spelt_74 : decode cX3_spelt 74 = .ok (.if_icmp .ge 20, 3) := by decide +kernel
theorem dX3_spelt_77 : decode cX3_spelt 77 = .ok (.aload_n 0, 1) := by decide +kernel
theorem dX3_spelt_78 : decode cX3_spelt 78 = .ok (.getfield 40, 3) := by decide +kernel
theorem dX3_spelt_81 : decode cX3_spelt 81 = .ok (.iload_n 3, 1) := by decide +kernel
theorem dX3_spelt_82 : decode cX3_spelt 82 = .ok (.baload, 1) := by decide +kernel
theorem dX3_spelt_83 : decode cX3_spelt 83 = .ok (.iload 6, 2) := by decide +kernel
theorem dX3_spelt_85 : decode cX3_spelt 85 = .ok (.if_icmp .ne 9, 3) := by decide +kernel
theorem dX3_spelt_88 : decode cX3_spelt 88 = .ok (.iinc 3 1, 3) := by decide +kernel
theorem dX3_spelt_91 : decode cX3_spelt 91 = .ok (.goto 6, 3) := by decide +kernel
theorem dX3_spelt_94 : decode cX3_spelt 94 = .ok (.iconst 0, 1) := by decide +kernel
theorem dX3_spelt_95 : decode cX3_spelt 95 = .ok (.istore 4, 2) := by decide +kernel
theorem dX3_spelt_97 : decode cX3_spelt 97 = .ok (.iinc 5 1, 3) := by decide +kernel
theorem dX3_spelt_100 : decode cX3_spelt 100 = .ok (.goto (-88), 3) := by decide +kernel
theorem dX3_spelt_103 : decode cX3_spelt 103 = .ok (.iconst (-1), 1) := by decide +kernel
theorem dX3_spelt_104 : decode cX3_spelt 104 = .ok (.ireturn, 1) := by decide +kernel
set_option maxRecDepth 100000 in
theorem ggX3_number_X3_isDigit : GoodIn wsX3_number wsX3_isDigit := goodIn_r _ [7] rfl (by decide +kernel)
set_option maxRecDepth 100000 in
theorem gX3_number_X3_isDigit : GoodIn wsX3_number (va_wsS RX3 109 yX3_isDigit wsX3_isDigit) := goodIn_app (goodIn_of _ (by decide +kernel)) ggX3_number_X3_isDigit
theorem dX3_number_0 : decode cX3_number 0 = .ok (.aload_n 0, 1) := by decide +kernel
theorem dX3_number_1 : decode cX3_number 1 = .ok (.getfield 15, 3) := by decide +kernel
theorem dX3_number_4 : decode cX3_number 4 = .ok (.istore_n 1, 1) := by decide +kernel
theorem dX3_number_5 : decode cX3_number 5 = .ok (.iconst 0, 1) := by decide +kernel
theorem dX3_number_6 : decode cX3_number 6 = .ok (.istore_n 2, 1) := by decide +kernel
theorem dX3_number_7 : decode cX3_number 7 = .ok (.aload_n 0, 1) := by decide +kernel
theorem dX3_number_8 : decode cX3_number 8 = .ok (.getfield 15, 3) := by decide +kernel
theorem dX3_number_11 : decode cX3_number 11 = .ok (.aload_n 0, 1) := by decide +kernel
theorem dX3_number_12 : decode cX3_number 12 = .ok (.getfield 11, 3) := by decide +kernel
theorem dX3_number_15 : decode cX3_number 15 = .ok (.if_icmp .ge 59, 3) := by decide +kernel
theorem dX3_number_18 : decode cX3_number 18 = .ok (.aload_n 0, 1) := by decide +kernel
theorem dX3_number_19 : decode cX3_number 19 = .ok (.getfield 40, 3) := by decide +kernel
theorem dX3_number_22 : decode cX3_number 22 = .ok (.aload_n 0, 1) := by decide +kernel
theorem dX3_number_23 : decode cX3_number 23 = .ok (.getfield 15, 3) := by decide +kernel
theorem dX3_number_26 : decode cX3_number 26 = .ok (.baload, 1) := by decide +kernel
theorem dX3_number_27 : decode cX3_number 27 = .ok (.invokestatic 109, 3) := by decide +kernel
theorem dX3_number_30 : decode cX3_number 30 = .ok (.ifCond .eq 44, 3) := by decide +kernel
theorem dX3_number_33 : decode cX3_number 33 = .ok (.aload_n 0, 1) := by decide +kernel
theorem dX3_number_34 : decode cX3_number 34 = .ok (.getfield 15, 3) := by decide +kernel
theorem dX3_number_37 : decode cX3_number 37 = .ok (.iload_n 1, 1) := by decide +kernel
theorem dX3_number_38 : decode cX3_number 38 = .ok (.isub, 1) := by decide +kernel
theorem dX3_number_39 : decode cX3_number 39 = .ok (.iconst 4, 1) := by decide +kernel
theorem dX3_number_40 : decode cX3_number 40 = .ok (.if_icmp .ge 21, 3) := by decide +kernel
theorem dX3_number_43 : decode cX3_number 43 = .ok (.iload_n 2, 1) := by decide +kernel
theorem dX3_number_44 : decode cX3_number 44 = .ok (.bipush 10, 2) := by decide +kernel
theorem dX3_number_46 : decode cX3_number 46 = .ok (.imul, 1) := by decide +kernel
theorem dX3_number_47 : decode cX3_number 47 = .ok (.aload_n 0, 1) := by decide +kernel
theorem dX3_number_48 : decode cX3_number 48 = .ok (.getfield 40, 3) := by decide +kernel
theorem dX3_number_51 : decode cX3_number 51 = .ok (.aload_n 0, 1) := by decide +kernel
theorem dX3_number_52 : decode cX3_number 52 = .ok (.getfield 15, 3) := by decide +kernel
theorem dX3_number_55 : decode cX3_number 55 = .ok (.baload, 1) := by decide +kernel
theorem dX3_number_56 : decode cX3_number 56 = .ok (.iadd, 1) := by decide +kernel
theorem dX3_number_57 : decode cX3_number 57 = .ok (.bipush 48, 2) := by decide +kernel
theorem dX3_number_59 : decode cX3_number 59 = .ok (.isub, 1) := by decide +kernel
theorem dX3_number_60 : decode cX3_number 60 = .ok (.istore_n 2, 1) := by decide +kernel
theorem dX3_number_61 : decode cX3_number 61 = .ok (.aload_n 0, 1) := by decide +kernel
theorem dX3_number_62 : decode cX3_number 62 = .ok (.dup, 1) := by decide +kernel
theorem dX3_number_63 : decode cX3_number 63 = .ok (.getfield 15, 3) := by decide +kernel
theorem dX3_number_66 : decode cX3_number 66 = .ok (.iconst 1, 1) := by decide +kernel
theorem dX3_number_67 : decode cX3_number 67 = .ok (.iadd, 1) := by decide +kernel
theorem dX3_number_68 : decode cX3_number 68 = .ok (.putfield 15, 3) := by decide +kernel
theorem dX3_number_71 : decode cX3_number 71 = .ok (.goto (-64), 3) := by decide +kernel
theorem dX3_number_74 : decode cX3_number 74 = .ok (.aload_n 0, 1) := by decide +kernel
theorem dX3_number_75 : decode cX3_number 75 = .ok (.getfield 15, 3) := by decide +kernel
theorem dX3_number_78 : decode cX3_number 78 = .ok (.iload_n 1, 1) := by decide +kernel
theorem dX3_number_79 : decode cX3_number 79 = .ok (.isub, 1) := by decide +kernel
theorem dX3_number_80 : decode cX3_number 80 = .ok (.iconst 4, 1) := by decide +kernel
theorem dX3_number_81 : decode cX3_number 81 = .ok (.if_icmp .le 7, 3) := by decide +kernel
theorem dX3_number_84 : decode cX3_number 84 = .ok (.iconst (-1), 1) := by decide +kernel
theorem dX3_number_85 : decode cX3_number 85 = .ok (.goto 8, 3) := by decide +kernel
theorem dX3_number_88 : decode cX3_number 88 = .ok (.sipush 1000, 3) := by decide +kernel
theorem dX3_number_91 : decode cX3_number 91 = .ok (.iload_n 2, 1) := by decide +kernel
theorem dX3_number_92 : decode cX3_number 92 = .ok (.iadd, 1) := by decide +kernel
theorem dX3_number_93 : decode cX3_number 93 = .ok (.ireturn, 1) := by decide +kernel
theorem dX3_isLetter_0 : decode cX3_isLetter 0 = .ok (.iload_n 0, 1) := by decide +kernel
theorem dX3_isLetter_1 : decode cX3_isLetter 1 = .ok (.bipush 97, 2) := by decide +kernel
theorem dX3_isLetter_3 : decode cX3_isLetter 3 = .ok (.if_icmp .lt 13, 3) := by decide +kernel
theorem dX3_isLetter_6 : decode cX3_isLetter 6 = .ok (.iload_n 0, 1) := by decide +kernel
theorem dX3_isLetter_7 : decode cX3_isLetter 7 = .ok (.bipush 122, 2) := by decide +kernel
theorem dX3_isLetter_9 : decode cX3_isLetter 9 = .ok (.if_icmp .gt 7, 3) := by decide +kernel
theorem dX3_isLetter_12 : decode cX3_isLetter 12 = .ok (.iconst 1, 1) := by decide +kernel
theorem dX3_isLetter_13 : decode cX3_isLetter 13 = .ok (.goto 4, 3) := by decide +kernel
theorem dX3_isLetter_16 : decode cX3_isLetter 16 = .ok (.iconst 0, 1) := by decide +kernel
theorem dX3_isLetter_17 : decode cX3_isLetter 17 = .ok (.ireturn, 1) := by decide +kernel
theorem dX3_isDigit_0 : decode cX3_isDigit 0 = .ok (.iload_n 0, 1) := by decide +kernel
theorem dX3_isDigit_1 : decode cX3_isDigit 1 = .ok (.bipush 48, 2) := by decide +kernel
theorem dX3_isDigit_3 : decode cX3_isDigit 3 = .ok (.if_icmp .lt 13, 3) := by decide +kernel
theorem dX3_isDigit_6 : decode cX3_isDigit 6 = .ok (.iload_n 0, 1) := by decide +kernel
theorem dX3_isDigit_7 : decode cX3_isDigit 7 = .ok (.bipush 57, 2) := by decide +kernel
theorem dX3_isDigit_9 : decode cX3_isDigit 9 = .ok (.if_icmp .gt 7, 3) := by decide +kernel
theorem dX3_isDigit_12 : decode cX3_isDigit 12 = .ok (.iconst 1, 1) := by decide +kernel
theorem dX3_isDigit_13 : decode cX3_isDigit 13 = .ok (.goto 4, 3) := by decide +kernel
theorem dX3_isDigit_16 : decode cX3_isDigit 16 = .ok (.iconst 0, 1) := by decide +kernel
theorem dX3_isDigit_17 : decode cX3_isDigit 17 = .ok (.ireturn, 1) := by decide +kernel
theorem dX3_isSign_0 : decode cX3_isSign 0 = .ok (.iload_n 0, 1) := by decide +kernel
theorem dX3_isSign_1 : decode cX3_isSign 1 = .ok (.bipush 40, 2) := by decide +kernel
theorem dX3_isSign_3 : decode cX3_isSign 3 = .ok (.if_icmp .eq 45, 3) := by decide +kernel
theorem dX3_isSign_6 : decode cX3_isSign 6 = .ok (.iload_n 0, 1) := by decide +kernel
theorem dX3_isSign_7 : decode cX3_isSign 7 = .ok (.bipush 41, 2) := by decide +kernel
theorem dX3_isSign_9 : decode cX3_isSign 9 = .ok (.if_icmp .eq 39, 3) := by decide +kernel
theorem dX3_isSign_12 : decode cX3_isSign 12 = .ok (.iload_n 0, 1) := by decide +kernel
theorem dX3_isSign_13 : decode cX3_isSign 13 = .ok (.bipush 59, 2) := by decide +kernel
theorem dX3_isSign_15 : decode cX3_isSign 15 = .ok (.if_icmp .eq 33, 3) := by decide +kernel
theorem dX3_isSign_18 : decode cX3_isSign 18 = .ok (.iload_n 0, 1) := by decide +kernel
theorem dX3_isSign_19 : decode cX3_isSign 19 = .ok (.bipush 43, 2) := by decide +kernel
theorem dX3_isSign_21 : decode cX3_isSign 21 = .ok (.if_icmp .eq 27, 3) := by decide +kernel
theorem dX3_isSign_24 : decode cX3_isSign 24 = .ok (.iload_n 0, 1) := by decide +kernel
theorem dX3_isSign_25 : decode cX3_isSign 25 = .ok (.bipush 45, 2) := by decide +kernel
theorem dX3_isSign_27 : decode cX3_isSign 27 = .ok (.if_icmp .eq 21, 3) := by decide +kernel
theorem dX3_isSign_30 : decode cX3_isSign 30 = .ok (.iload_n 0, 1) := by decide +kernel
theorem dX3_isSign_31 : decode cX3_isSign 31 = .ok (.bipush 42, 2) := by decide +kernel
theorem dX3_isSign_33 : decode cX3_isSign 33 = .ok (.if_icmp .eq 15, 3) := by decide +kernel
theorem dX3_isSign_36 : decode cX3_isSign 36 = .ok (.iload_n 0, 1) := by decide +kernel
theorem dX3_isSign_37 : decode cX3_isSign 37 = .ok (.bipush 60, 2) := by decide +kernel
theorem dX3_isSign_39 : decode cX3_isSign 39 = .ok (.if_icmp .eq 9, 3) := by decide +kernel
theorem dX3_isSign_42 : decode cX3_isSign 42 = .ok (.iload_n 0, 1) := by decide +kernel
theorem dX3_isSign_43 : decode cX3_isSign 43 = .ok (.bipush 61, 2) := by decide +kernel
theorem dX3_isSign_45 : decode cX3_isSign 45 = .ok (.if_icmp .ne 7, 3) := by decide +kernel
theorem dX3_isSign_48 : decode cX3_isSign 48 = .ok (.iconst 1, 1) := by decide +kernel
theorem dX3_isSign_49 : decode cX3_isSign 49 = .ok (.goto 4, 3) := by decide +kernel
theorem dX3_isSign_52 : decode cX3_isSign 52 = .ok (.iconst 0, 1) := by decide +kernel
theorem dX3_isSign_53 : decode cX3_isSign 53 = .ok (.ireturn, 1) := by decide +kernel
theorem dX4_init_0 : decode cX4_init 0 = .ok (.aload_n 0, 1) := by decide +kernel
theorem dX4_init_1 : decode cX4_init 1 = .ok (.invokespecial 3, 3) := by decide +kernel
theorem dX4_init_4 : decode cX4_init 4 = .ok (.aload_n 0, 1) := by decide +kernel
theorem dX4_init_5 : decode cX4_init 5 = .ok (.iconst (-1), 1) := by decide +kernel
theorem dX4_init_6 : decode cX4_init 6 = .ok (.putfield 9, 3) := by decide +kernel
theorem dX4_init_9 : decode cX4_init 9 = .ok (.aload_n 0, 1) := by decide +kernel
theorem dX4_init_10 : decode cX4_init 10 = .ok (.iconst 0, 1) := by decide +kernel
theorem dX4_init_11 : decode cX4_init 11 = .ok (.putfield 15, 3) := by decide +kernel
theorem dX4_init_14 : decode cX4_init 14 = .ok (.aload_n 0, 1) := by decide +kernel
theorem dX4_init_15 : decode cX4_init 15 = .ok (.bipush 40, 2) := by decide +kernel
theorem dX4_init_17 : decode cX4_init 17 = .ok (.newarray .int, 2) := by decide +kernel
theorem dX4_init_19 : decode cX4_init 19 = .ok (.putfield 18, 3) := by decide +kernel
theorem dX4_init_22 : decode cX4_init 22 = .ok (.return_, 1) := by decide +kernel
set_option maxRecDepth 100000 in
theorem ggX4_becomes_J7_fill_53178 : GoodIn wsX4_becomes wsJ7_fill_53178 := goodIn_r _ [7] rfl (by decide +kernel)
set_option maxRecDepth 100000 in
theorem gX4_becomes_J7_fill_53178 : GoodIn wsX4_becomes (va_wsS RX4 22 yJ7_fill_53178 wsJ7_fill_53178) := goodIn_app (goodIn_of _ (by decide +kernel)) ggX4_becomes_J7_fill_53178
theorem dX4_becomes_0 : decode cX4_becomes 0 = .ok (.aload_n 0, 1) := by decide +kernel
theorem dX4_becomes_1 : decode cX4_becomes 1 = .ok (.iload_n 1, 1) := by decide +kernel
theorem dX4_becomes_2 : decode cX4_becomes 2 = .ok (.putfield 9, 3) := by decide +kernel
theorem dX4_becomes_5 : decode cX4_becomes 5 = .ok (.aload_n 0, 1) := by decide +kernel
theorem dX4_becomes_6 : decode cX4_becomes 6 = .ok (.iload_n 2, 1) := by decide +kernel
theorem dX4_becomes_7 : decode cX4_becomes 7 = .ok (.putfield 15, 3) := by decide +kernel
theorem dX4_becomes_10 : decode cX4_becomes 10 = .ok (.aload_n 0, 1) := by decide +kernel
theorem dX4_becomes_11 : decode cX4_becomes 11 = .ok (.getfield 18, 3) := by decide +kernel
theorem dX4_becomes_14 : decode cX4_becomes 14 = .ok (.iconst 0, 1) := by decide +kernel
theorem dX4_becomes_15 : decode cX4_becomes 15 = .ok (.invokestatic 22, 3) := by decide +kernel
theorem dX4_becomes_18 : decode cX4_becomes 18 = .ok (.return_, 1) := by decide +kernel
theorem dX4_cutDown_0 : decode cX4_cutDown 0 = .ok (.aload_n 0, 1) := by decide +kernel
theorem dX4_cutDown_1 : decode cX4_cutDown 1 = .ok (.getfield 9, 3) := by decide +kernel
theorem dX4_cutDown_4 : decode cX4_cutDown 4 = .ok (.ifCond .ne 6, 3) := by decide +kernel
theorem dX4_cutDown_7 : decode cX4_cutDown 7 = .ok (.iload_n 1, 1) := by decide +kernel
theorem dX4_cutDown_8 : decode cX4_cutDown 8 = .ok (.i2b, 1) := by decide +kernel
theorem dX4_cutDown_9 : decode cX4_cutDown 9 = .ok (.ireturn, 1) := by decide +kernel
theorem dX4_cutDown_10 : decode cX4_cutDown 10 = .ok (.aload_n 0, 1) := by decide +kernel
theorem dX4_cutDown_11 : decode cX4_cutDown 11 = .ok (.getfield 9, 3) := by decide +kernel
theorem dX4_cutDown_14 : decode cX4_cutDown 14 = .ok (.iconst 1, 1) := by decide +kernel
theorem dX4_cutDown_15 : decode cX4_cutDown 15 = .ok (.if_icmp .ne 8, 3) := by decide +kernel
theorem dX4_cutDown_18 : decode cX4_cutDown 18 = .ok (.iload_n 1, 1) := by decide +kernel
theorem dX4_cutDown_19 : decode cX4_cutDown 19 = .ok (.i2s, 1) := by decide +kernel
theorem dX4_cutDown_20 : decode cX4_cutDown 20 = .ok (.goto 4, 3) := by decide +kernel
theorem dX4_cutDown_23 : decode cX4_cutDown 23 = .ok (.iload_n 1, 1) := by decide +kernel
theorem dX4_cutDown_24 : decode cX4_cutDown 24 = .ok (.ireturn, 1) := by decide +kernel
theorem dX4_within_0 : decode cX4_within 0 = .ok (.iconst 0, 1) := by decide +kernel
theorem dX4_within_1 : decode cX4_within 1 = .ok (.istore_n 2, 1) := by decide +kernel
theorem dX4_within_2 : decode cX4_within 2 = .ok (.iload_n 2, 1) := by decide +kernel
theorem dX4_within_3 : decode cX4_within 3 = .ok (.aload_n 0, 1) := by decide +kernel
theorem dX4_within_4 : decode cX4_within 4 = .ok (.getfield 15, 3) := by decide +kernel
theorem dX4_within_7 : decode cX4_within 7 = .ok (.if_icmp .ge 30, 3) := by decide +kernel
theorem dX4_within_10 : decode cX4_within 10 = .ok (.aload_n 0, 1) := by decide +kernel
theorem dX4_within_11 : decode cX4_within 11 = .ok (.getfield 18, 3) := by decide +kernel
theorem dX4_within_14 : decode cX4_within 14 = .ok (.iload_n 2, 1) := by decide +kernel
theorem dX4_within_15 : decode cX4_within 15 = .ok (.iaload, 1) := by decide +kernel
theorem dX4_within_16 : decode cX4_within 16 = .ok (.ifCond .lt 13, 3) := by decide +kernel
theorem dX4_within_19 : decode cX4_within 19 = .ok (.aload_n 0, 1) := by decide +kernel
theorem dX4_within_20 : decode cX4_within 20 = .ok (.getfield 18, 3) := by decide +kernel
theorem dX4_within_23 : decode cX4_within 23 = .ok (.iload_n 2, 1) := by decide +kernel
theorem dX4_within_24 : decode cX4_within 24 = .ok (.iaload, 1) := by decide +kernel
theorem dX4_within_25 : decode cX4_within 25 = .ok (.iload_n 1, 1) := by decide +kernel
theorem dX4_within_26 : decode cX4_within 26 = .ok (.if_icmp .le 5, 3) := by decide +kernel
theorem dX4_within_29 : decode cX4_within 29 = .ok (.iconst 0, 1) := by decide +kernel
theorem dX4_within_30 : decode cX4_within 30 = .ok (.ireturn, 1) := by decide +kernel
theorem dX4_within_31 : decode cX4_within 31 = .ok (.iinc 2 1, 3) := by decide +kernel
theorem dX4_within_34 : decode cX4_within 34 = .ok (.goto (-32), 3) := by decide +kernel
theorem dX4_within_37 : decode cX4_within 37 = .ok (.iconst 1, 1) := by decide +kernel
theorem dX4_within_38 : decode cX4_within 38 = .ok (.ireturn, 1) := by decide +kernel
theorem dX4_squares_0 : decode cX4_squares 0 = .ok (.iconst 0, 1) := by decide +kernel
theorem dX4_squares_1 : decode cX4_squares 1 = .ok (.istore_n 2, 1) := by decide +kernel
theorem dX4_squares_2 : decode cX4_squares 2 = .ok (.iconst 0, 1) := by decide +kernel
theorem dX4_squares_3 : decode cX4_squares 3 = .ok (.istore_n 3, 1) := by decide +kernel
theorem dX4_squares_4 : decode cX4_squares 4 = .ok (.iconst 0, 1) := by decide +kernel
theorem dX4_squares_5 : decode cX4_squares 5 = .ok (.istore 4, 2) := by decide +kernel
theorem dX4_squares_7 : decode cX4_squares 7 = .ok (.iload 4, 2) := by decide +kernel
theorem dX4_squares_9 : decode cX4_squares 9 = .ok (.aload_n 0, 1) := by decide +kernel
theorem dX4_squares_10 : decode cX4_squares 10 = .ok (.getfield 15, 3) := by decide +kernel
theorem dX4_squares_13 : decode cX4_squares 13 = .ok (.if_icmp .ge 37, 3) := by decide +kernel
theorem dX4_squares_16 : decode cX4_squares 16 = .ok (.iload_n 3, 1) := by decide +kernel
theorem dX4_squares_17 : decode cX4_squares 17 = .ok (.aload_n 0, 1) := by decide +kernel
theorem dX4_squares_18 : decode cX4_squares 18 = .ok (.getfield 18, 3) := by decide +kernel
theorem dX4_squares_21 : decode cX4_squares 21 = .ok (.iload 4, 2) := by decide +kernel
theorem dX4_squares_23 : decode cX4_squares 23 = .ok (.iaload, 1) := by decide +kernel
theorem dX4_squares_24 : decode cX4_squares 24 = .ok (.iadd, 1) := by decide +kernel
theorem dX4_squares_25 : decode cX4_squares 25 = .ok (.istore_n 3, 1) := by decide +kernel
theorem dX4_squares_26 : decode cX4_squares 26 = .ok (.iload_n 1, 1) := by decide +kernel
theorem dX4_squares_27 : decode cX4_squares 27 = .ok (.iload 4, 2) := by decide +kernel
theorem dX4_squares_29 : decode cX4_squares 29 = .ok (.ishr, 1) := by decide +kernel
theorem dX4_squares_30 : decode cX4_squares 30 = .ok (.iconst 1, 1) := by decide +kernel
theorem dX4_squares_31 : decode cX4_squares 31 = .ok (.iand, 1) := by decide +kernel
theorem dX4_squares_32 : decode cX4_squares 32 = .ok (.iconst 1, 1) := by decide +kernel
theorem dX4_squares_33 : decode cX4_squares 33 = .ok (.if_icmp .ne 11, 3) := by decide +kernel
theorem dX4_squares_36 : decode cX4_squares 36 = .ok (.iload_n 2, 1) := by decide +kernel
theorem dX4_squares_37 : decode cX4_squares 37 = .ok (.iload_n 3, 1) := by decide +kernel
theorem dX4_squares_38 : decode cX4_squares 38 = .ok (.iload_n 3, 1) := by decide +kernel
theorem dX4_squares_39 : decode cX4_squares 39 = .ok (.imul, 1) := by decide +kernel
theorem dX4_squares_40 : decode cX4_squares 40 = .ok (.iadd, 1) := by decide +kernel
theorem dX4_squares_41 : decode cX4_squares 41 = .ok (.istore_n 2, 1) := by decide +kernel
theorem dX4_squares_42 : decode cX4_squares 42 = .ok (.iconst 0, 1) := by decide +kernel
theorem dX4_squares_43 : decode cX4_squares 43 = .ok (.istore_n 3, 1) := by decide +kernel
theorem dX4_squares_44 : decode cX4_squares 44 = .ok (.iinc 4 1, 3) := by decide +kernel
theorem dX4_squares_47 : decode cX4_squares 47 = .ok (.goto (-40), 3) := by decide +kernel
theorem dX4_squares_50 : decode cX4_squares 50 = .ok (.iload_n 2, 1) := by decide +kernel
theorem dX4_squares_51 : decode cX4_squares 51 = .ok (.ireturn, 1) := by decide +kernel
theorem dX5_init_0 : decode cX5_init 0 = .ok (.aload_n 0, 1) := by decide +kernel
theorem dX5_init_1 : decode cX5_init 1 = .ok (.invokespecial 1, 3) := by decide +kernel
theorem dX5_init_4 : decode cX5_init 4 = .ok (.aload_n 0, 1) := by decide +kernel
theorem dX5_init_5 : decode cX5_init 5 = .ok (.aload_n 1, 1) := by decide +kernel
theorem dX5_init_6 : decode cX5_init 6 = .ok (.putfield 7, 3) := by decide +kernel
theorem dX5_init_9 : decode cX5_init 9 = .ok (.aload_n 0, 1) := by decide +kernel
theorem dX5_init_10 : decode cX5_init 10 = .ok (.aload_n 2, 1) := by decide +kernel
theorem dX5_init_11 : decode cX5_init 11 = .ok (.putfield 13, 3) := by decide +kernel
theorem dX5_init_14 : decode cX5_init 14 = .ok (.return_, 1) := by decide +kernel
set_option maxRecDepth 100000 in
theorem ggX6_init_X3_init : GoodIn wsX6_init wsX3_init := goodIn_r _ [36, 37, 2, 3, 38, 39, 40, 41, 42, 43, 44, 45, 46, 47, 48, 241, 242, 243, 244, 245, 246, 247, 248, 249, 250] rfl (by decide +kernel)
set_option maxRecDepth 100000 in
theorem gX6_init_X3_init_n46 : GoodIn wsX6_init (wsX3_init) := ggX6_init_X3_init
set_option maxRecDepth 100000 in
theorem ggX6_init_X0_init : GoodIn wsX6_init wsX0_init := goodIn_r _ [50, 51, 2, 3, 52, 53, 54, 11, 55, 44, 56, 57, 251, 252, 253, 254, 255, 256] rfl (by decide +kernel)
set_option maxRecDepth 100000 in
theorem gX6_init_X0_init_n55 : GoodIn wsX6_init (wsX0_init) := ggX6_init_X0_init
set_option maxRecDepth 100000 in
theorem ggX6_init_X1_init : GoodIn wsX6_init wsX1_init := goodIn_r _ [59, 60, 2, 3, 61, 28, 62, 44, 63, 64, 65, 66, 67, 68, 257, 258, 259, 260, 261, 262, 263] rfl (by decide +kernel)
set_option maxRecDepth 100000 in
theorem gX6_init_X1_init_n62 : GoodIn wsX6_init (wsX1_init) := ggX6_init_X1_init
set_option maxRecDepth 100000 in
theorem ggX6_init_X4_init : GoodIn wsX6_init wsX4_init := goodIn_r _ [70, 71, 2, 3, 72, 73, 44, 74, 264, 265, 266] rfl (by decide +kernel)
set_option maxRecDepth 100000 in
theorem gX6_init_X4_init_n83 : GoodIn wsX6_init (wsX4_init) := ggX6_init_X4_init
set_option maxRecDepth 100000 in
theorem ggX6_init_J0_length_8abf5 : GoodIn wsX6_init wsJ0_length_8abf5 := goodIn_r _ [79, 80, 81, 82, 83, 78, 84, 85, 86] rfl (by decide +kernel)
set_option maxRecDepth 100000 in
theorem gX6_init_J0_length_8abf5 : GoodIn wsX6_init (wsV RX6 86 RJ0 yJ0_length_8abf5 wsJ0_length_8abf5) := goodIn_app (goodIn_of _ (by decide +kernel)) ggX6_init_J0_length_8abf5
set_option maxRecDepth 100000 in
theorem ggX6_init_J0_charAt_5068e : GoodIn wsX6_init wsJ0_charAt_5068e := goodIn_r _ [90, 80, 91, 92, 93, 78, 94, 85, 86, 95, 96, 97, 98, 99, 100, 101, 102, 103, 104, 105, 106, 107, 108, 109, 110, 111, 112, 113, 114, 115, 116, 117, 118, 119, 120, 121, 122, 123] rfl (by decide +kernel)
set_option maxRecDepth 100000 in
theorem gX6_init_J0_charAt_5068e : GoodIn wsX6_init (wsV RX6 92 RJ0 yJ0_charAt_5068e wsJ0_charAt_5068e) := goodIn_app (goodIn_of _ (by decide +kernel)) ggX6_init_J0_charAt_5068e
set_option maxRecDepth 100000 in
theorem ggX6_init_X3_read : GoodIn wsX6_init wsX3_read := goodIn_r _ [126, 48, 127, 128, 129, 130, 38, 39, 42, 43, 46, 47, 131, 132, 133, 18, 134, 41, 40, 135, 136, 137, 138, 139, 140, 141, 142, 143, 144, 145, 146, 76, 77, 78, 79, 80, 81, 82, 83, 84, 85, 86, 147, 88, 89, 90, 91, 92, 93, 94, 95, 96, 97, 98, 99, 100, 101, 102, 103, 104, 105, 106, 107, 108, 109, 110, 111, 112, 113, 114, 115, 116, 117, 118, 119, 120, 121, 122, 123, 148, 149, 150, 151, 152, 153, 154, 155, 156, 157, 158, 159, 160, 161, 162, 163, 164, 165, 166, 167, 168, 169, 170, 171, 172, 173, 174, 175, 176, 45, 177, 178, 179, 180, 181, 182, 183, 184, 185, 186, 187, 188, 189, 190, 191, 192, 193, 194, 195, 196, 197, 241, 242, 243, 244, 245, 246, 247, 248, 249, 250] rfl (by decide +kernel)
set_option maxRecDepth 100000 in
theorem gX6_init_X3_read_n96 : GoodIn wsX6_init (wsX3_read) := ggX6_init_X3_read
set_option maxRecDepth 100000 in
theorem ggX6_init_X3_made : GoodIn wsX6_init wsX3_made := goodIn_r _ [200, 201, 202, 203, 45, 46, 47, 204, 205, 206, 207, 208, 209, 210, 211, 212, 213, 214, 215, 44, 216, 128, 129, 130, 217, 218, 219, 220, 221, 222, 223, 2, 3, 224, 225, 267, 268, 241, 242, 243, 244, 245, 246, 247, 248, 249, 250] rfl (by decide +kernel)
set_option maxRecDepth 100000 in
theorem gX6_init_X3_made_n100 : GoodIn wsX6_init (wsX3_made) := ggX6_init_X3_made
theorem dX6_init_0 : decode cX6_init 0 = .ok (.aload_n 0, 1) := by decide +kernel
theorem dX6_init_1 : decode cX6_init 1 = .ok (.invokespecial 1, 3) := by decide +kernel
theorem dX6_init_4 : decode cX6_init 4 = .ok (.aload_n 0, 1) := by decide +kernel
theorem dX6_init_5 : decode cX6_init 5 = .ok (.bipush 8, 2) := by decide +kernel
theorem dX6_init_7 : decode cX6_init 7 = .ok (.anewarray 9, 3) := by decide +kernel
theorem dX6_init_10 : decode cX6_init 10 = .ok (.putfield 11, 3) := by decide +kernel
theorem dX6_init_13 : decode cX6_init 13 = .ok (.aload_n 0, 1) := by decide +kernel
theorem dX6_init_14 : decode cX6_init 14 = .ok (.iconst 0, 1) := by decide +kernel
theorem dX6_init_15 : decode cX6_init 15 = .ok (.putfield 15, 3) := by decide +kernel
theorem dX6_init_18 : decode cX6_init 18 = .ok (.aload_n 0, 1) := by decide +kernel
theorem dX6_init_19 : decode cX6_init 19 = .ok (.bipush 6, 2) := by decide +kernel
theorem dX6_init_21 : decode cX6_init 21 = .ok (.anewarray 19, 3) := by decide +kernel
theorem dX6_init_24 : decode cX6_init 24 = .ok (.putfield 21, 3) := by decide +kernel
theorem dX6_init_27 : decode cX6_init 27 = .ok (.aload_n 0, 1) := by decide +kernel
theorem dX6_init_28 : decode cX6_init 28 = .ok (.iconst 0, 1) := by decide +kernel
theorem dX6_init_29 : decode cX6_init 29 = .ok (.putfield 25, 3) := by decide +kernel
theorem dX6_init_32 : decode cX6_init 32 = .ok (.aload_n 0, 1) := by decide +kernel
theorem dX6_init_33 : decode cX6_init 33 = .ok (.iconst 0, 1) := by decide +kernel
theorem dX6_init_34 : decode cX6_init 34 = .ok (.putfield 28, 3) := by decide +kernel
theorem dX6_init_37 : decode cX6_init 37 = .ok (.aload_n 0, 1) := by decide +kernel
theorem dX6_init_38 : decode cX6_init 38 = .ok (.sipush 160, 3) := by decide +kernel
theorem dX6_init_41 : decode cX6_init 41 = .ok (.newarray .byte, 2) := by decide +kernel
theorem dX6_init_43 : decode cX6_init 43 = .ok (.putfield 31, 3) := by decide +kernel
theorem dX6_init_46 : decode cX6_init 46 = .ok (.aload_n 0, 1) := by decide +kernel
theorem dX6_init_47 : decode cX6_init 47 = .ok (.iconst 0, 1) := by decide +kernel
theorem dX6_init_48 : decode cX6_init 48 = .ok (.putfield 35, 3) := by decide +kernel
theorem dX6_init_51 : decode cX6_init 51 = .ok (.aload_n 0, 1) := by decide +kernel
theorem dX6_init_52 : decode cX6_init 52 = .ok (.iconst 4, 1) := by decide +kernel
theorem dX6_init_53 : decode cX6_init 53 = .ok (.anewarray 38, 3) := by decide +kernel
theorem dX6_init_56 : decode cX6_init 56 = .ok (.putfield 40, 3) := by decide +kernel
theorem dX6_init_59 : decode cX6_init 59 = .ok (.aload_n 0, 1) := by decide +kernel
theorem dX6_init_60 : decode cX6_init 60 = .ok (.new 44, 3) := by decide +kernel
theorem dX6_init_63 : decode cX6_init 63 = .ok (.dup, 1) := by decide +kernel
theorem dX6_init_64 : decode cX6_init 64 = .ok (.aload_n 0, 1) := by decide +kernel
theorem dX6_init_65 : decode cX6_init 65 = .ok (.getfield 31, 3) := by decide +kernel
theorem dX6_init_68 : decode cX6_init 68 = .ok (.invokespecial 46, 3) := by decide +kernel
theorem dX6_init_71 : decode cX6_init 71 = .ok (.putfield 49, 3) := by decide +kernel
theorem dX6_init_74 : decode cX6_init 74 = .ok (.aload_n 0, 1) := by decide +kernel
theorem dX6_init_75 : decode cX6_init 75 = .ok (.new 53, 3) := by decide +kernel
theorem dX6_init_78 : decode cX6_init 78 = .ok (.dup, 1) := by decide +kernel
theorem dX6_init_79 : decode cX6_init 79 = .ok (.invokespecial 55, 3) := by decide +kernel
theorem dX6_init_82 : decode cX6_init 82 = .ok (.putfield 56, 3) := by decide +kernel
theorem dX6_init_85 : decode cX6_init 85 = .ok (.aload_n 0, 1) := by decide +kernel
theorem dX6_init_86 : decode cX6_init 86 = .ok (.new 60, 3) := by decide +kernel
theorem dX6_init_89 : decode cX6_init 89 = .ok (.dup, 1) := by decide +kernel
theorem dX6_init_90 : decode cX6_init 90 = .ok (.aload_n 0, 1) := by decide +kernel
theorem dX6_init_91 : decode cX6_init 91 = .ok (.getfield 56, 3) := by decide +kernel
theorem dX6_init_94 : decode cX6_init 94 = .ok (.invokespecial 62, 3) := by decide +kernel
theorem dX6_init_97 : decode cX6_init 97 = .ok (.putfield 65, 3) := by decide +kernel
theorem dX6_init_100 : decode cX6_init 100 = .ok (.aload_n 0, 1) := by decide +kernel
theorem dX6_init_101 : decode cX6_init 101 = .ok (.bipush 8, 2) := by decide +kernel
theorem dX6_init_103 : decode cX6_init 103 = .ok (.newarray .long, 2) := by decide +kernel
theorem dX6_init_105 : decode cX6_init 105 = .ok (.putfield 69, 3) := by decide +kernel
theorem dX6_init_108 : decode cX6_init 108 = .ok (.aload_n 0, 1) := by decide +kernel
theorem dX6_init_109 : decode cX6_init 109 = .ok (.iconst 0, 1) := by decide +kernel
theorem dX6_init_110 : decode cX6_init 110 = .ok (.putfield 73, 3) := by decide +kernel
theorem dX6_init_113 : decode cX6_init 113 = .ok (.aload_n 0, 1) := by decide +kernel
theorem dX6_init_114 : decode cX6_init 114 = .ok (.iconst 0, 1) := by decide +kernel
theorem dX6_init_115 : decode cX6_init 115 = .ok (.putfield 77, 3) := by decide +kernel
theorem dX6_init_118 : decode cX6_init 118 = .ok (.aload_n 0, 1) := by decide +kernel
theorem dX6_init_119 : decode cX6_init 119 = .ok (.iconst 0, 1) := by decide +kernel
theorem dX6_init_120 : decode cX6_init 120 = .ok (.putfield 80, 3) := by decide +kernel
theorem dX6_init_123 : decode cX6_init 123 = .ok (.iconst 0, 1) := by decide +kernel
theorem dX6_init_124 : decode cX6_init 124 = .ok (.istore_n 1, 1) := by decide +kernel
theorem dX6_init_125 : decode cX6_init 125 = .ok (.iload_n 1, 1) := by decide +kernel
theorem dX6_init_126 : decode cX6_init 126 = .ok (.iconst 4, 1) := by decide +kernel
theorem dX6_init_127 : decode cX6_init 127 = .ok (.if_icmp .ge 22, 3) := by decide +kernel
theorem dX6_init_130 : decode cX6_init 130 = .ok (.aload_n 0, 1) := by decide +kernel
theorem dX6_init_131 : decode cX6_init 131 = .ok (.getfield 40, 3) := by decide +kernel
theorem dX6_init_134 : decode cX6_init 134 = .ok (.iload_n 1, 1) := by decide +kernel
theorem dX6_init_135 : decode cX6_init 135 = .ok (.new 38, 3) := by decide +kernel
theorem dX6_init_138 : decode cX6_init 138 = .ok (.dup, 1) := by decide +kernel
theorem dX6_init_139 : decode cX6_init 139 = .ok (.invokespecial 83, 3) := by decide +kernel
theorem dX6_init_142 : decode cX6_init 142 = .ok (.aastore, 1) := by decide +kernel
theorem dX6_init_143 : decode cX6_init 143 = .ok (.iinc 1 1, 3) := by decide +kernel
theorem dX6_init_146 : decode cX6_init 146 = .ok (.goto (-21), 3) := by decide +kernel
theorem dX6_init_149 : decode cX6_init 149 = .ok (.iconst 0, 1) := by decide +kernel
theorem dX6_init_150 : decode cX6_init 150 = .ok (.istore_n 1, 1) := by decide +kernel
theorem dX6_init_151 : decode cX6_init 151 = .ok (.iload_n 1, 1) := by decide +kernel
theorem dX6_init_152 : decode cX6_init 152 = .ok (.ldc 84, 2) := by decide +kernel
theorem dX6_init_154 : decode cX6_init 154 = .ok (.invokevirtual 86, 3) := by decide +kernel
theorem dX6_init_157 : decode cX6_init 157 = .ok (.if_icmp .ge 29, 3) := by decide +kernel
theorem dX6_init_160 : decode cX6_init 160 = .ok (.iload_n 1, 1) := by decide +kernel
theorem dX6_init_161 : decode cX6_init 161 = .ok (.sipush 160, 3) := by decide +kernel
theorem dX6_init_164 : decode cX6_init 164 = .ok (.if_icmp .ge 22, 3) := by decide +kernel
theorem dX6_init_167 : decode cX6_init 167 = .ok (.aload_n 0, 1) := by decide +kernel
theorem dX6_init_168 : decode cX6_init 168 = .ok (.getfield 31, 3) := by decide +kernel
theorem dX6_init_171 : decode cX6_init 171 = .ok (.iload_n 1, 1) := by decide +kernel
theorem dX6_init_172 : decode cX6_init 172 = .ok (.ldc 84, 2) := by decide +kernel
theorem dX6_init_174 : decode cX6_init 174 = .ok (.iload_n 1, 1) := by decide +kernel
theorem dX6_init_175 : decode cX6_init 175 = .ok (.invokevirtual 92, 3) := by decide +kernel
theorem dX6_init_178 : decode cX6_init 178 = .ok (.i2b, 1) := by decide +kernel
theorem dX6_init_179 : decode cX6_init 179 = .ok (.bastore, 1) := by decide +kernel
theorem dX6_init_180 : decode cX6_init 180 = .ok (.iinc 1 1, 3) := by decide +kernel
theorem dX6_init_183 : decode cX6_init 183 = .ok (.goto (-32), 3) := by decide +kernel
theorem dX6_init_186 : decode cX6_init 186 = .ok (.aload_n 0, 1) := by decide +kernel
theorem dX6_init_187 : decode cX6_init 187 = .ok (.getfield 49, 3) := by decide +kernel
theorem dX6_init_190 : decode cX6_init 190 = .ok (.ldc 84, 2) := by decide +kernel
theorem dX6_init_192 : decode cX6_init 192 = .ok (.invokevirtual 86, 3) := by decide +kernel
theorem dX6_init_195 : decode cX6_init 195 = .ok (.invokevirtual 96, 3) := by decide +kernel
theorem dX6_init_198 : decode cX6_init 198 = .ok (.pop, 1) := by decide +kernel
theorem dX6_init_199 : decode cX6_init 199 = .ok (.aload_n 0, 1) := by decide +kernel
theorem dX6_init_200 : decode cX6_init 200 = .ok (.getfield 21, 3) := by decide +kernel
theorem dX6_init_203 : decode cX6_init 203 = .ok (.iconst 0, 1) := by decide +kernel
theorem dX6_init_204 : decode cX6_init 204 = .ok (.aload_n 0, 1) := by decide +kernel
theorem dX6_init_205 : decode cX6_init 205 = .ok (.getfield 49, 3) := by decide +kernel
theorem dX6_init_208 : decode cX6_init 208 = .ok (.invokevirtual 100, 3) := by decide +kernel
theorem dX6_init_211 : decode cX6_init 211 = .ok (.aastore, 1) := by decide +kernel
theorem dX6_init_212 : decode cX6_init 212 = .ok (.aload_n 0, 1) := by decide +kernel
theorem dX6_init_213 : decode cX6_init 213 = .ok (.iconst 1, 1) := by decide +kernel
theorem dX6_init_214 : decode cX6_init 214 = .ok (.putfield 25, 3) := by decide +kernel
theorem dX6_init_217 : decode cX6_init 217 = .ok (.return_, 1) := by decide +kernel
set_option maxRecDepth 100000 in
theorem ggX6_pupil_X2_init : GoodIn wsX6_pupil wsX2_init := goodIn_r _ [7, 8, 9, 10, 11, 12, 13, 14, 15, 16, 17, 18, 34, 35, 36, 37, 38, 39, 40] rfl (by decide +kernel)
set_option maxRecDepth 100000 in
theorem gX6_pupil_X2_init_n104 : GoodIn wsX6_pupil (wsX2_init) := ggX6_pupil_X2_init
theorem dX6_pupil_0 : decode cX6_pupil 0 = .ok (.iload_n 1, 1) := by decide +kernel
theorem dX6_pupil_1 : decode cX6_pupil 1 = .ok (.ifCond .lt 13, 3) := by decide +kernel
theorem dX6_pupil_4 : decode cX6_pupil 4 = .ok (.iload_n 1, 1) := by decide +kernel
theorem dX6_pupil_5 : decode cX6_pupil 5 = .ok (.bipush 6, 2) := by decide +kernel
theorem dX6_pupil_7 : decode cX6_pupil 7 = .ok (.if_icmp .ge 7, 3) := by decide +kernel
theorem dX6_pupil_10 : decode cX6_pupil 10 = .ok (.iload_n 2, 1) := by decide +kernel
theorem dX6_pupil_11 : decode cX6_pupil 11 = .ok (.ifCond .ge 6, 3) := by decide +kernel
theorem dX6_pupil_14 : decode cX6_pupil 14 = .ok (.bipush (-2), 2) := by decide +kernel
theorem dX6_pupil_16 : decode cX6_pupil 16 = .ok (.ireturn, 1) := by decide +kernel
theorem dX6_pupil_17 : decode cX6_pupil 17 = .ok (.iload_n 2, 1) := by decide +kernel
theorem dX6_pupil_18 : decode cX6_pupil 18 = .ok (.bipush 100, 2) := by decide +kernel
theorem dX6_pupil_20 : decode cX6_pupil 20 = .ok (.idiv, 1) := by decide +kernel
theorem dX6_pupil_21 : decode cX6_pupil 21 = .ok (.istore_n 3, 1) := by decide +kernel
theorem dX6_pupil_22 : decode cX6_pupil 22 = .ok (.iload_n 2, 1) := by decide +kernel
theorem dX6_pupil_23 : decode cX6_pupil 23 = .ok (.bipush 10, 2) := by decide +kernel
theorem dX6_pupil_25 : decode cX6_pupil 25 = .ok (.idiv, 1) := by decide +kernel
theorem dX6_pupil_26 : decode cX6_pupil 26 = .ok (.bipush 10, 2) := by decide +kernel
theorem dX6_pupil_28 : decode cX6_pupil 28 = .ok (.irem, 1) := by decide +kernel
theorem dX6_pupil_29 : decode cX6_pupil 29 = .ok (.istore 4, 2) := by decide +kernel
theorem dX6_pupil_31 : decode cX6_pupil 31 = .ok (.iload_n 3, 1) := by decide +kernel
theorem dX6_pupil_32 : decode cX6_pupil 32 = .ok (.iconst 5, 1) := by decide +kernel
theorem dX6_pupil_33 : decode cX6_pupil 33 = .ok (.if_icmp .ge 9, 3) := by decide +kernel
theorem dX6_pupil_36 : decode cX6_pupil 36 = .ok (.iload 4, 2) := by decide +kernel
theorem dX6_pupil_38 : decode cX6_pupil 38 = .ok (.iconst 4, 1) := by decide +kernel
theorem dX6_pupil_39 : decode cX6_pupil 39 = .ok (.if_icmp .lt 6, 3) := by decide +kernel
theorem dX6_pupil_42 : decode cX6_pupil 42 = .ok (.bipush (-2), 2) := by decide +kernel
theorem dX6_pupil_44 : decode cX6_pupil 44 = .ok (.ireturn, 1) := by decide +kernel
theorem dX6_pupil_45 : decode cX6_pupil 45 = .ok (.aload_n 0, 1) := by decide +kernel
theorem dX6_pupil_46 : decode cX6_pupil 46 = .ok (.getfield 15, 3) := by decide +kernel
theorem dX6_pupil_49 : decode cX6_pupil 49 = .ok (.bipush 8, 2) := by decide +kernel
theorem dX6_pupil_51 : decode cX6_pupil 51 = .ok (.if_icmp .lt 6, 3) := by decide +kernel
theorem dX6_pupil_54 : decode cX6_pupil 54 = .ok (.bipush (-4), 2) := by decide +kernel
theorem dX6_pupil_56 : decode cX6_pupil 56 = .ok (.ireturn, 1) := by decide +kernel
theorem dX6_pupil_57 : decode cX6_pupil 57 = .ok (.aload_n 0, 1) := by decide +kernel
theorem dX6_pupil_58 : decode cX6_pupil 58 = .ok (.getfield 11, 3) := by decide +kernel
theorem dX6_pupil_61 : decode cX6_pupil 61 = .ok (.aload_n 0, 1) := by decide +kernel
theorem dX6_pupil_62 : decode cX6_pupil 62 = .ok (.getfield 15, 3) := by decide +kernel
theorem dX6_pupil_65 : decode cX6_pupil 65 = .ok (.new 9, 3) := by decide +kernel
theorem dX6_pupil_68 : decode cX6_pupil 68 = .ok (.dup, 1) := by decide +kernel
theorem dX6_pupil_69 : decode cX6_pupil 69 = .ok (.iload_n 1, 1) := by decide +kernel
theorem dX6_pupil_70 : decode cX6_pupil 70 = .ok (.iload_n 3, 1) := by decide +kernel
theorem dX6_pupil_71 : decode cX6_pupil 71 = .ok (.iload 4, 2) := by decide +kernel
theorem dX6_pupil_73 : decode cX6_pupil 73 = .ok (.iload_n 2, 1) := by decide +kernel
theorem dX6_pupil_74 : decode cX6_pupil 74 = .ok (.bipush 10, 2) := by decide +kernel
theorem dX6_pupil_76 : decode cX6_pupil 76 = .ok (.irem, 1) := by decide +kernel
theorem dX6_pupil_77 : decode cX6_pupil 77 = .ok (.invokespecial 104, 3) := by decide +kernel
theorem dX6_pupil_80 : decode cX6_pupil 80 = .ok (.aastore, 1) := by decide +kernel
theorem dX6_pupil_81 : decode cX6_pupil 81 = .ok (.aload_n 0, 1) := by decide +kernel
theorem dX6_pupil_82 : decode cX6_pupil 82 = .ok (.dup, 1) := by decide +kernel
theorem dX6_pupil_83 : decode cX6_pupil 83 = .ok (.getfield 15, 3) := by decide +kernel
theorem dX6_pupil_86 : decode cX6_pupil 86 = .ok (.iconst 1, 1) := by decide +kernel
theorem dX6_pupil_87 : decode cX6_pupil 87 = .ok (.iadd, 1) := by decide +kernel
theorem dX6_pupil_88 : decode cX6_pupil 88 = .ok (.putfield 15, 3) := by decide +kernel
theorem dX6_pupil_91 : decode cX6_pupil 91 = .ok (.aload_n 0, 1) := by decide +kernel
theorem dX6_pupil_92 : decode cX6_pupil 92 = .ok (.getfield 15, 3) := by decide +kernel
theorem dX6_pupil_95 : decode cX6_pupil 95 = .ok (.iconst 1, 1) := by decide +kernel
theorem dX6_pupil_96 : decode cX6_pupil 96 = .ok (.isub, 1) := by decide +kernel
theorem dX6_pupil_97 : decode cX6_pupil 97 = .ok (.ireturn, 1) := by decide +kernel
set_option maxRecDepth 100000 in
theorem ggX6_weigh_X6_known : GoodIn wsX6_weigh wsX6_known := goodIn_r _ [6, 7, 8, 21, 22, 23, 24, 25, 26, 27, 28, 29, 30, 31, 32, 33, 34, 35] rfl (by decide +kernel)
set_option maxRecDepth 100000 in
theorem gX6_weigh_X6_known : GoodIn wsX6_weigh (wsV RX6 107 RX6 yX6_known wsX6_known) := goodIn_app (goodIn_of _ (by decide +kernel)) ggX6_weigh_X6_known
set_option maxRecDepth 100000 in
theorem ggX6_weigh_X2_together : GoodIn wsX6_weigh wsX2_together := goodIn_r _ [12, 13, 14, 15, 16, 17, 18, 19, 20] rfl (by decide +kernel)
set_option maxRecDepth 100000 in
theorem gX6_weigh_X2_together_n112 : GoodIn wsX6_weigh (wsX2_together) := ggX6_weigh_X2_together
theorem dX6_weigh_0 : decode cX6_weigh 0 = .ok (.aload_n 0, 1) := by decide +kernel
theorem dX6_weigh_1 : decode cX6_weigh 1 = .ok (.iload_n 1, 1) := by decide +kernel
theorem dX6_weigh_2 : decode cX6_weigh 2 = .ok (.invokevirtual 107, 3) := by decide +kernel
theorem dX6_weigh_5 : decode cX6_weigh 5 = .ok (.astore_n 3, 1) := by decide +kernel
theorem dX6_weigh_6 : decode cX6_weigh 6 = .ok (.aload_n 3, 1) := by decide +kernel
theorem dX6_weigh_7 : decode cX6_weigh 7 = .ok (.ifnull 13, 3) := by decide +kernel
theorem dX6_weigh_10 : decode cX6_weigh 10 = .ok (.iload_n 2, 1) := by decide +kernel
theorem dX6_weigh_11 : decode cX6_weigh 11 = .ok (.ifCond .le 9, 3) := by decide +kernel
theorem dX6_weigh_14 : decode cX6_weigh 14 = .ok (.iload_n 2, 1) := by decide +kernel
theorem dX6_weigh_15 : decode cX6_weigh 15 = .ok (.ldc 111, 2) := by decide +kernel
theorem dX6_weigh_17 : decode cX6_weigh 17 = .ok (.if_icmp .le 6, 3) := by decide +kernel
theorem dX6_weigh_20 : decode cX6_weigh 20 = .ok (.bipush (-2), 2) := by decide +kernel
theorem dX6_weigh_22 : decode cX6_weigh 22 = .ok (.ireturn, 1) := by decide +kernel
theorem dX6_weigh_23 : decode cX6_weigh 23 = .ok (.aload_n 3, 1) := by decide +kernel
theorem dX6_weigh_24 : decode cX6_weigh 24 = .ok (.invokevirtual 112, 3) := by decide +kernel
theorem dX6_weigh_27 : decode cX6_weigh 27 = .ok (.istore 4, 2) := by decide +kernel
theorem dX6_weigh_29 : decode cX6_weigh 29 = .ok (.iload_n 2, 1) := by decide +kernel
theorem dX6_weigh_30 : decode cX6_weigh 30 = .ok (.istore 5, 2) := by decide +kernel
theorem dX6_weigh_32 : decode cX6_weigh 32 = .ok (.iconst 0, 1) := by decide +kernel
theorem dX6_weigh_33 : decode cX6_weigh 33 = .ok (.istore 6, 2) := by decide +kernel
theorem dX6_weigh_35 : decode cX6_weigh 35 = .ok (.iload 6, 2) := by decide +kernel
theorem dX6_weigh_37 : decode cX6_weigh 37 = .ok (.iconst 5, 1) := by decide +kernel
theorem dX6_weigh_38 : decode cX6_weigh 38 = .ok (.if_icmp .ge 28, 3) := by decide +kernel
theorem dX6_weigh_41 : decode cX6_weigh 41 = .ok (.aload_n 3, 1) := by decide +kernel
theorem dX6_weigh_42 : decode cX6_weigh 42 = .ok (.getfield 115, 3) := by decide +kernel
theorem dX6_weigh_45 : decode cX6_weigh 45 = .ok (.iload 6, 2) := by decide +kernel
theorem dX6_weigh_47 : decode cX6_weigh 47 = .ok (.iload 5, 2) := by decide +kernel
theorem dX6_weigh_49 : decode cX6_weigh 49 = .ok (.bipush 10, 2) := by decide +kernel
theorem dX6_weigh_51 : decode cX6_weigh 51 = .ok (.irem, 1) := by decide +kernel
theorem dX6_weigh_52 : decode cX6_weigh 52 = .ok (.iastore, 1) := by decide +kernel
theorem dX6_weigh_53 : decode cX6_weigh 53 = .ok (.iload 5, 2) := by decide +kernel
theorem dX6_weigh_55 : decode cX6_weigh 55 = .ok (.bipush 10, 2) := by decide +kernel
theorem dX6_weigh_57 : decode cX6_weigh 57 = .ok (.idiv, 1) := by decide +kernel
theorem dX6_weigh_58 : decode cX6_weigh 58 = .ok (.istore 5, 2) := by decide +kernel
theorem dX6_weigh_60 : decode cX6_weigh 60 = .ok (.iinc 6 1, 3) := by decide +kernel
theorem dX6_weigh_63 : decode cX6_weigh 63 = .ok (.goto (-28), 3) := by decide +kernel
theorem dX6_weigh_66 : decode cX6_weigh 66 = .ok (.iload 4, 2) := by decide +kernel
theorem dX6_weigh_68 : decode cX6_weigh 68 = .ok (.ireturn, 1) := by decide +kernel
set_option maxRecDepth 100000 in
theorem ggX6_told_X6_known : GoodIn wsX6_told wsX6_known := goodIn_r _ [5, 6, 7, 15, 16, 17, 18, 19, 20, 21, 22, 23, 24, 25, 26, 27, 28, 29] rfl (by decide +kernel)
set_option maxRecDepth 100000 in
theorem gX6_told_X6_known : GoodIn wsX6_told (wsV RX6 107 RX6 yX6_known wsX6_known) := goodIn_app (goodIn_of _ (by decide +kernel)) ggX6_told_X6_known
theorem dX6_told_0 : decode cX6_told 0 = .ok (.aload_n 0, 1) := by decide +kernel
theorem dX6_told_1 : decode cX6_told 1 = .ok (.iload_n 1, 1) := by decide +kernel
theorem dX6_told_2 : decode cX6_told 2 = .ok (.invokevirtual 107, 3) := by decide +kernel
theorem dX6_told_5 : decode cX6_told 5 = .ok (.astore_n 3, 1) := by decide +kernel
theorem dX6_told_6 : decode cX6_told 6 = .ok (.aload_n 3, 1) := by decide +kernel
theorem dX6_told_7 : decode cX6_told 7 = .ok (.ifnonnull 6, 3) := by decide +kernel
theorem dX6_told_10 : decode cX6_told 10 = .ok (.bipush (-5), 2) := by decide +kernel
theorem dX6_told_12 : decode cX6_told 12 = .ok (.ireturn, 1) := by decide +kernel
theorem dX6_told_13 : decode cX6_told 13 = .ok (.iload_n 2, 1) := by decide +kernel
theorem dX6_told_14 : decode cX6_told 14 = .ok (.tableswitch 50 0 3 #[30, 35, 40, 45], 30) := by decide +kernel
theorem dX6_told_44 : decode cX6_told 44 = .ok (.aload_n 3, 1) := by decide +kernel
theorem dX6_told_45 : decode cX6_told 45 = .ok (.getfield 119, 3) := by decide +kernel
theorem dX6_told_48 : decode cX6_told 48 = .ok (.ireturn, 1) := by decide +kernel
theorem dX6_told_49 : decode cX6_told 49 = .ok (.aload_n 3, 1) := by decide +kernel
theorem dX6_told_50 : decode cX6_told 50 = .ok (.getfield 122, 3) := by decide +kernel
theorem dX6_told_53 : decode cX6_told 53 = .ok (.ireturn, 1) := by decide +kernel
theorem dX6_told_54 : decode cX6_told 54 = .ok (.aload_n 3, 1) := by decide +kernel
theorem dX6_told_55 : decode cX6_told 55 = .ok (.getfield 125, 3) := by decide +kernel
theorem dX6_told_58 : decode cX6_told 58 = .ok (.ireturn, 1) := by decide +kernel
theorem dX6_told_59 : decode cX6_told 59 = .ok (.aload_n 3, 1) := by decide +kernel
theorem dX6_told_60 : decode cX6_told 60 = .ok (.getfield 128, 3) := by decide +kernel
theorem dX6_told_63 : decode cX6_told 63 = .ok (.ireturn, 1) := by decide +kernel
theorem dX6_told_64 : decode cX6_told 64 = .ok (.iload_n 2, 1) := by decide +kernel
theorem dX6_told_65 : decode cX6_told 65 = .ok (.iconst 4, 1) := by decide +kernel
theorem dX6_told_66 : decode cX6_told 66 = .ok (.if_icmp .lt 20, 3) := by decide +kernel
theorem dX6_told_69 : decode cX6_told 69 = .ok (.iload_n 2, 1) := by decide +kernel
theorem dX6_told_70 : decode cX6_told 70 = .ok (.bipush 9, 2) := by decide +kernel
theorem dX6_told_72 : decode cX6_told 72 = .ok (.if_icmp .ge 14, 3) := by decide +kernel
theorem dX6_told_75 : decode cX6_told 75 = .ok (.aload_n 3, 1) := by decide +kernel
theorem dX6_told_76 : decode cX6_told 76 = .ok (.getfield 115, 3) := by decide +kernel
theorem dX6_told_79 : decode cX6_told 79 = .ok (.iload_n 2, 1) := by decide +kernel
theorem dX6_told_80 : decode cX6_told 80 = .ok (.iconst 4, 1) := by decide +kernel
theorem dX6_told_81 : decode cX6_told 81 = .ok (.isub, 1) := by decide +kernel
theorem dX6_told_82 : decode cX6_told 82 = .ok (.iaload, 1) := by decide +kernel
theorem dX6_told_83 : decode cX6_told 83 = .ok (.goto 5, 3) := by decide +kernel
theorem dX6_told_86 : decode cX6_told 86 = .ok (.bipush (-5), 2) := by decide +kernel
theorem dX6_told_88 : decode cX6_told 88 = .ok (.ireturn, 1) := by decide +kernel
theorem dX6_feed_0 : decode cX6_feed 0 = .ok (.iload_n 1, 1) := by decide +kernel
theorem dX6_feed_1 : decode cX6_feed 1 = .ok (.iconst 1, 1) := by decide +kernel
theorem dX6_feed_2 : decode cX6_feed 2 = .ok (.if_icmp .lt 9, 3) := by decide +kernel
theorem dX6_feed_5 : decode cX6_feed 5 = .ok (.iload_n 1, 1) := by decide +kernel
theorem dX6_feed_6 : decode cX6_feed 6 = .ok (.bipush 8, 2) := by decide +kernel
theorem dX6_feed_8 : decode cX6_feed 8 = .ok (.if_icmp .le 6, 3) := by decide +kernel
theorem dX6_feed_11 : decode cX6_feed 11 = .ok (.bipush (-2), 2) := by decide +kernel
theorem dX6_feed_13 : decode cX6_feed 13 = .ok (.ireturn, 1) := by decide +kernel
theorem dX6_feed_14 : decode cX6_feed 14 = .ok (.aload_n 0, 1) := by decide +kernel
theorem dX6_feed_15 : decode cX6_feed 15 = .ok (.getfield 35, 3) := by decide +kernel
theorem dX6_feed_18 : decode cX6_feed 18 = .ok (.iload_n 1, 1) := by decide +kernel
theorem dX6_feed_19 : decode cX6_feed 19 = .ok (.iadd, 1) := by decide +kernel
theorem dX6_feed_20 : decode cX6_feed 20 = .ok (.sipush 160, 3) := by decide +kernel
theorem dX6_feed_23 : decode cX6_feed 23 = .ok (.if_icmp .le 6, 3) := by decide +kernel
theorem dX6_feed_26 : decode cX6_feed 26 = .ok (.bipush (-4), 2) := by decide +kernel
theorem dX6_feed_28 : decode cX6_feed 28 = .ok (.ireturn, 1) := by decide +kernel
theorem dX6_feed_29 : decode cX6_feed 29 = .ok (.iconst 0, 1) := by decide +kernel
theorem dX6_feed_30 : decode cX6_feed 30 = .ok (.istore 4, 2) := by decide +kernel
theorem dX6_feed_32 : decode cX6_feed 32 = .ok (.iload 4, 2) := by decide +kernel
theorem dX6_feed_34 : decode cX6_feed 34 = .ok (.iload_n 1, 1) := by decide +kernel
theorem dX6_feed_35 : decode cX6_feed 35 = .ok (.if_icmp .ge 37, 3) := by decide +kernel
theorem dX6_feed_38 : decode cX6_feed 38 = .ok (.aload_n 0, 1) := by decide +kernel
theorem dX6_feed_39 : decode cX6_feed 39 = .ok (.getfield 31, 3) := by decide +kernel
theorem dX6_feed_42 : decode cX6_feed 42 = .ok (.aload_n 0, 1) := by decide +kernel
theorem dX6_feed_43 : decode cX6_feed 43 = .ok (.getfield 35, 3) := by decide +kernel
theorem dX6_feed_46 : decode cX6_feed 46 = .ok (.lload_n 2, 1) := by decide +kernel
theorem dX6_feed_47 : decode cX6_feed 47 = .ok (.bipush 8, 2) := by decide +kernel
theorem dX6_feed_49 : decode cX6_feed 49 = .ok (.iload 4, 2) := by decide +kernel
theorem dX6_feed_51 : decode cX6_feed 51 = .ok (.imul, 1) := by decide +kernel
theorem dX6_feed_52 : decode cX6_feed 52 = .ok (.lshr, 1) := by decide +kernel
theorem dX6_feed_53 : decode cX6_feed 53 = .ok (.l2i, 1) := by decide +kernel
theorem dX6_feed_54 : decode cX6_feed 54 = .ok (.i2b, 1) := by decide +kernel
theorem dX6_feed_55 : decode cX6_feed 55 = .ok (.bastore, 1) := by decide +kernel
theorem dX6_feed_56 : decode cX6_feed 56 = .ok (.aload_n 0, 1) := by decide +kernel
theorem dX6_feed_57 : decode cX6_feed 57 = .ok (.dup, 1) := by decide +kernel
theorem dX6_feed_58 : decode cX6_feed 58 = .ok (.getfield 35, 3) := by decide +kernel
theorem dX6_feed_61 : decode cX6_feed 61 = .ok (.iconst 1, 1) := by decide +kernel
theorem dX6_feed_62 : decode cX6_feed 62 = .ok (.iadd, 1) := by decide +kernel
theorem dX6_feed_63 : decode cX6_feed 63 = .ok (.putfield 35, 3) := by decide +kernel
theorem dX6_feed_66 : decode cX6_feed 66 = .ok (.iinc 4 1, 3) := by decide +kernel
theorem dX6_feed_69 : decode cX6_feed 69 = .ok (.goto (-37), 3) := by decide +kernel
theorem dX6_feed_72 : decode cX6_feed 72 = .ok (.aload_n 0, 1) := by decide +kernel
theorem dX6_feed_73 : decode cX6_feed 73 = .ok (.getfield 35, 3) := by decide +kernel
theorem dX6_feed_76 : decode cX6_feed 76 = .ok (.ireturn, 1) := by decide +kernel
set_option maxRecDepth 100000 in
theorem ggX6_text_X3_read : GoodIn wsX6_text wsX3_read := goodIn_r _ [8, 9, 10, 11, 12, 13, 14, 15, 16, 17, 18, 19, 20, 21, 22, 6, 23, 24, 25, 26, 27, 28, 29, 30, 31, 32, 33, 34, 35, 36, 37, 38, 39, 40, 41, 42, 43, 44, 45, 46, 47, 48, 49, 50, 51, 52, 53, 54, 55, 56, 57, 58, 59, 60, 61, 62, 63, 64, 65, 66, 67, 68, 69, 70, 71, 72, 73, 74, 75, 76, 77, 78, 79, 80, 81, 82, 83, 84, 85, 86, 87, 88, 89, 90, 91, 92, 93, 94, 95, 96, 97, 98, 99, 100, 101, 102, 103, 104, 105, 106, 107, 108, 109, 110, 111, 112, 113, 114, 115, 116, 117, 118, 119, 120, 121, 122, 123, 124, 125, 126, 127, 128, 129, 130, 131, 132, 133, 134, 135, 136, 183, 184, 185, 186, 187, 188, 189, 190, 191, 192] rfl (by decide +kernel)
set_option maxRecDepth 100000 in
theorem gX6_text_X3_read_n96 : GoodIn wsX6_text (wsX3_read) := ggX6_text_X3_read
set_option maxRecDepth 100000 in
theorem ggX6_text_X3_made : GoodIn wsX6_text wsX3_made := goodIn_r _ [139, 140, 141, 142, 115, 18, 19, 143, 144, 145, 146, 147, 148, 149, 150, 151, 152, 153, 154, 155, 156, 11, 12, 13, 157, 158, 159, 160, 161, 162, 163, 164, 165, 166, 167, 193, 194, 183, 184, 185, 186, 187, 188, 189, 190, 191, 192] rfl (by decide +kernel)
set_option maxRecDepth 100000 in
theorem gX6_text_X3_made_n100 : GoodIn wsX6_text (wsX3_made) := ggX6_text_X3_made
theorem dX6_text_0 : decode cX6_text 0 = .ok (.aload_n 0, 1) := by decide +kernel
theorem dX6_text_1 : decode cX6_text 1 = .ok (.getfield 25, 3) := by decide +kernel
theorem dX6_text_4 : decode cX6_text 4 = .ok (.bipush 6, 2) := by decide +kernel
theorem dX6_text_6 : decode cX6_text 6 = .ok (.if_icmp .lt 6, 3) := by decide +kernel
theorem dX6_text_9 : decode cX6_text 9 = .ok (.bipush (-4), 2) := by decide +kernel
theorem dX6_text_11 : decode cX6_text 11 = .ok (.ireturn, 1) := by decide +kernel
theorem dX6_text_12 : decode cX6_text 12 = .ok (.aload_n 0, 1) := by decide +kernel
theorem dX6_text_13 : decode cX6_text 13 = .ok (.getfield 49, 3) := by decide +kernel
theorem dX6_text_16 : decode cX6_text 16 = .ok (.aload_n 0, 1) := by decide +kernel
theorem dX6_text_17 : decode cX6_text 17 = .ok (.getfield 35, 3) := by decide +kernel
theorem dX6_text_20 : decode cX6_text 20 = .ok (.invokevirtual 96, 3) := by decide +kernel
theorem dX6_text_23 : decode cX6_text 23 = .ok (.istore_n 1, 1) := by decide +kernel
theorem dX6_text_24 : decode cX6_text 24 = .ok (.aload_n 0, 1) := by decide +kernel
theorem dX6_text_25 : decode cX6_text 25 = .ok (.iconst 0, 1) := by decide +kernel
theorem dX6_text_26 : decode cX6_text 26 = .ok (.putfield 35, 3) := by decide +kernel
theorem dX6_text_29 : decode cX6_text 29 = .ok (.iload_n 1, 1) := by decide +kernel
theorem dX6_text_30 : decode cX6_text 30 = .ok (.ifCond .lt 8, 3) := by decide +kernel
theorem dX6_text_33 : decode cX6_text 33 = .ok (.bipush (-100), 2) := by decide +kernel
theorem dX6_text_35 : decode cX6_text 35 = .ok (.iload_n 1, 1) := by decide +kernel
theorem dX6_text_36 : decode cX6_text 36 = .ok (.isub, 1) := by decide +kernel
theorem dX6_text_37 : decode cX6_text 37 = .ok (.ireturn, 1) := by decide +kernel
theorem dX6_text_38 : decode cX6_text 38 = .ok (.aload_n 0, 1) := by decide +kernel
theorem dX6_text_39 : decode cX6_text 39 = .ok (.getfield 21, 3) := by decide +kernel
theorem dX6_text_42 : decode cX6_text 42 = .ok (.aload_n 0, 1) := by decide +kernel
theorem dX6_text_43 : decode cX6_text 43 = .ok (.getfield 25, 3) := by decide +kernel
theorem dX6_text_46 : decode cX6_text 46 = .ok (.aload_n 0, 1) := by decide +kernel
theorem dX6_text_47 : decode cX6_text 47 = .ok (.getfield 49, 3) := by decide +kernel
theorem dX6_text_50 : decode cX6_text 50 = .ok (.invokevirtual 100, 3) := by decide +kernel
theorem dX6_text_53 : decode cX6_text 53 = .ok (.aastore, 1) := by decide +kernel
theorem dX6_text_54 : decode cX6_text 54 = .ok (.aload_n 0, 1) := by decide +kernel
theorem dX6_text_55 : decode cX6_text 55 = .ok (.dup, 1) := by decide +kernel
theorem dX6_text_56 : decode cX6_text 56 = .ok (.getfield 25, 3) := by decide +kernel
theorem dX6_text_59 : decode cX6_text 59 = .ok (.iconst 1, 1) := by decide +kernel
theorem dX6_text_60 : decode cX6_text 60 = .ok (.iadd, 1) := by decide +kernel
theorem dX6_text_61 : decode cX6_text 61 = .ok (.putfield 25, 3) := by decide +kernel
theorem dX6_text_64 : decode cX6_text 64 = .ok (.aload_n 0, 1) := by decide +kernel
theorem dX6_text_65 : decode cX6_text 65 = .ok (.getfield 25, 3) := by decide +kernel
theorem dX6_text_68 : decode cX6_text 68 = .ok (.iconst 1, 1) := by decide +kernel
theorem dX6_text_69 : decode cX6_text 69 = .ok (.isub, 1) := by decide +kernel
theorem dX6_text_70 : decode cX6_text 70 = .ok (.ireturn, 1) := by decide +kernel
theorem dX6_force_0 : decode cX6_force 0 = .ok (.iload_n 1, 1) := by decide +kernel
theorem dX6_force_1 : decode cX6_force 1 = .ok (.ifCond .lt 11, 3) := by decide +kernel
theorem dX6_force_4 : decode cX6_force 4 = .ok (.iload_n 1, 1) := by decide +kernel
theorem dX6_force_5 : decode cX6_force 5 = .ok (.aload_n 0, 1) := by decide +kernel
theorem dX6_force_6 : decode cX6_force 6 = .ok (.getfield 25, 3) := by decide +kernel
theorem dX6_force_9 : decode cX6_force 9 = .ok (.if_icmp .lt 6, 3) := by decide +kernel
theorem dX6_force_12 : decode cX6_force 12 = .ok (.bipush (-2), 2) := by decide +kernel
theorem dX6_force_14 : decode cX6_force 14 = .ok (.ireturn, 1) := by decide +kernel
theorem dX6_force_15 : decode cX6_force 15 = .ok (.aload_n 0, 1) := by decide +kernel
theorem dX6_force_16 : decode cX6_force 16 = .ok (.getfield 28, 3) := by decide +kernel
theorem dX6_force_19 : decode cX6_force 19 = .ok (.istore_n 2, 1) := by decide +kernel
theorem dX6_force_20 : decode cX6_force 20 = .ok (.aload_n 0, 1) := by decide +kernel
theorem dX6_force_21 : decode cX6_force 21 = .ok (.iload_n 1, 1) := by decide +kernel
theorem dX6_force_22 : decode cX6_force 22 = .ok (.putfield 28, 3) := by decide +kernel
theorem dX6_force_25 : decode cX6_force 25 = .ok (.iload_n 2, 1) := by decide +kernel
theorem dX6_force_26 : decode cX6_force 26 = .ok (.ireturn, 1) := by decide +kernel
set_option maxRecDepth 100000 in
theorem ggX6_says_X0_rely : GoodIn wsX6_says wsX0_rely := goodIn_r _ [7, 8, 9, 10, 11, 12, 13, 14, 15, 50, 51, 52, 53, 54, 55] rfl (by decide +kernel)
set_option maxRecDepth 100000 in
theorem gX6_says_X0_rely_n131 : GoodIn wsX6_says (wsX0_rely) := ggX6_says_X0_rely
set_option maxRecDepth 100000 in
theorem ggX6_says_X0_asks : GoodIn wsX6_says wsX0_asks := goodIn_r _ [18, 11, 19, 9, 20, 21, 22, 23, 24, 25, 26, 27, 28, 29, 5, 30, 10, 31, 32, 33, 34, 50, 51, 52, 53, 54, 55, 56, 57] rfl (by decide +kernel)
set_option maxRecDepth 100000 in
theorem gX6_says_X0_asks_n135 : GoodIn wsX6_says (wsX0_asks) := ggX6_says_X0_asks
theorem dX6_says_0 : decode cX6_says 0 = .ok (.iload_n 1, 1) := by decide +kernel
theorem dX6_says_1 : decode cX6_says 1 = .ok (.ifCond .lt 16, 3) := by decide +kernel
theorem dX6_says_4 : decode cX6_says 4 = .ok (.iload_n 2, 1) := by decide +kernel
theorem dX6_says_5 : decode cX6_says 5 = .ok (.ifCond .lt 12, 3) := by decide +kernel
theorem dX6_says_8 : decode cX6_says 8 = .ok (.iload_n 3, 1) := by decide +kernel
theorem dX6_says_9 : decode cX6_says 9 = .ok (.ifCond .lt 8, 3) := by decide +kernel
theorem dX6_says_12 : decode cX6_says 12 = .ok (.iload_n 3, 1) := by decide +kernel
theorem dX6_says_13 : decode cX6_says 13 = .ok (.iconst 3, 1) := by decide +kernel
theorem dX6_says_14 : decode cX6_says 14 = .ok (.if_icmp .lt 6, 3) := by decide +kernel
theorem dX6_says_17 : decode cX6_says 17 = .ok (.bipush (-2), 2) := by decide +kernel
theorem dX6_says_19 : decode cX6_says 19 = .ok (.ireturn, 1) := by decide +kernel
theorem dX6_says_20 : decode cX6_says 20 = .ok (.iload_n 1, 1) := by decide +kernel
theorem dX6_says_21 : decode cX6_says 21 = .ok (.bipush 100, 2) := by decide +kernel
theorem dX6_says_23 : decode cX6_says 23 = .ok (.idiv, 1) := by decide +kernel
theorem dX6_says_24 : decode cX6_says 24 = .ok (.istore 4, 2) := by decide +kernel
theorem dX6_says_26 : decode cX6_says 26 = .ok (.iload_n 1, 1) := by decide +kernel
theorem dX6_says_27 : decode cX6_says 27 = .ok (.bipush 10, 2) := by decide +kernel
theorem dX6_says_29 : decode cX6_says 29 = .ok (.idiv, 1) := by decide +kernel
theorem dX6_says_30 : decode cX6_says 30 = .ok (.bipush 10, 2) := by decide +kernel
theorem dX6_says_32 : decode cX6_says 32 = .ok (.irem, 1) := by decide +kernel
theorem dX6_says_33 : decode cX6_says 33 = .ok (.istore 5, 2) := by decide +kernel
theorem dX6_says_35 : decode cX6_says 35 = .ok (.iload_n 1, 1) := by decide +kernel
theorem dX6_says_36 : decode cX6_says 36 = .ok (.bipush 10, 2) := by decide +kernel
theorem dX6_says_38 : decode cX6_says 38 = .ok (.irem, 1) := by decide +kernel
theorem dX6_says_39 : decode cX6_says 39 = .ok (.istore 6, 2) := by decide +kernel
theorem dX6_says_41 : decode cX6_says 41 = .ok (.iload 4, 2) := by decide +kernel
theorem dX6_says_43 : decode cX6_says 43 = .ok (.iconst 5, 1) := by decide +kernel
theorem dX6_says_44 : decode cX6_says 44 = .ok (.if_icmp .ge 31, 3) := by decide +kernel
theorem dX6_says_47 : decode cX6_says 47 = .ok (.iload 5, 2) := by decide +kernel
theorem dX6_says_49 : decode cX6_says 49 = .ok (.iconst 5, 1) := by decide +kernel
theorem dX6_says_50 : decode cX6_says 50 = .ok (.if_icmp .ge 25, 3) := by decide +kernel
theorem dX6_says_53 : decode cX6_says 53 = .ok (.iload 6, 2) := by decide +kernel
theorem dX6_says_55 : decode cX6_says 55 = .ok (.iconst 5, 1) := by decide +kernel
theorem dX6_says_56 : decode cX6_says 56 = .ok (.if_icmp .gt 19, 3) := by decide +kernel
theorem dX6_says_59 : decode cX6_says 59 = .ok (.iload_n 2, 1) := by decide +kernel
theorem dX6_says_60 : decode cX6_says 60 = .ok (.bipush 10, 2) := by decide +kernel
theorem dX6_says_62 : decode cX6_says 62 = .ok (.idiv, 1) := by decide +kernel
theorem dX6_says_63 : decode cX6_says 63 = .ok (.iconst 4, 1) := by decide +kernel
theorem dX6_says_64 : decode cX6_says 64 = .ok (.if_icmp .ge 11, 3) := by decide +kernel
theorem dX6_says_67 : decode cX6_says 67 = .ok (.iload_n 2, 1) := by decide +kernel
theorem dX6_says_68 : decode cX6_says 68 = .ok (.bipush 10, 2) := by decide +kernel
theorem dX6_says_70 : decode cX6_says 70 = .ok (.irem, 1) := by decide +kernel
theorem dX6_says_71 : decode cX6_says 71 = .ok (.iconst 5, 1) := by decide +kernel
theorem dX6_says_72 : decode cX6_says 72 = .ok (.if_icmp .le 6, 3) := by decide +kernel
theorem dX6_says_75 : decode cX6_says 75 = .ok (.bipush (-2), 2) := by decide +kernel
theorem dX6_says_77 : decode cX6_says 77 = .ok (.ireturn, 1) := by decide +kernel
theorem dX6_says_78 : decode cX6_says 78 = .ok (.aload_n 0, 1) := by decide +kernel
theorem dX6_says_79 : decode cX6_says 79 = .ok (.getfield 56, 3) := by decide +kernel
theorem dX6_says_82 : decode cX6_says 82 = .ok (.aload_n 0, 1) := by decide +kernel
theorem dX6_says_83 : decode cX6_says 83 = .ok (.getfield 21, 3) := by decide +kernel
theorem dX6_says_86 : decode cX6_says 86 = .ok (.aload_n 0, 1) := by decide +kernel
theorem dX6_says_87 : decode cX6_says 87 = .ok (.getfield 28, 3) := by decide +kernel
theorem dX6_says_90 : decode cX6_says 90 = .ok (.aaload, 1) := by decide +kernel
theorem dX6_says_91 : decode cX6_says 91 = .ok (.aload_n 0, 1) := by decide +kernel
theorem dX6_says_92 : decode cX6_says 92 = .ok (.getfield 28, 3) := by decide +kernel
theorem dX6_says_95 : decode cX6_says 95 = .ok (.iload_n 2, 1) := by decide +kernel
theorem dX6_says_96 : decode cX6_says 96 = .ok (.bipush 10, 2) := by decide +kernel
theorem dX6_says_98 : decode cX6_says 98 = .ok (.idiv, 1) := by decide +kernel
theorem dX6_says_99 : decode cX6_says 99 = .ok (.invokevirtual 131, 3) := by decide +kernel
theorem dX6_says_102 : decode cX6_says 102 = .ok (.aload_n 0, 1) := by decide +kernel
theorem dX6_says_103 : decode cX6_says 103 = .ok (.getfield 56, 3) := by decide +kernel
theorem dX6_says_106 : decode cX6_says 106 = .ok (.iload_n 3, 1) := by decide +kernel
theorem dX6_says_107 : decode cX6_says 107 = .ok (.iload 4, 2) := by decide +kernel
theorem dX6_says_109 : decode cX6_says 109 = .ok (.iload 5, 2) := by decide +kernel
theorem dX6_says_111 : decode cX6_says 111 = .ok (.iload 6, 2) := by decide +kernel
theorem dX6_says_113 : decode cX6_says 113 = .ok (.iload_n 2, 1) := by decide +kernel
theorem dX6_says_114 : decode cX6_says 114 = .ok (.bipush 10, 2) := by decide +kernel
theorem dX6_says_116 : decode cX6_says 116 = .ok (.irem, 1) := by decide +kernel
theorem dX6_says_117 : decode cX6_says 117 = .ok (.invokevirtual 135, 3) := by decide +kernel
theorem dX6_says_120 : decode cX6_says 120 = .ok (.ireturn, 1) := by decide +kernel
set_option maxRecDepth 100000 in
theorem ggX6_thought_X6_known : GoodIn wsX6_thought wsX6_known := goodIn_r _ [7, 8, 9, 130, 131, 132, 133, 134, 135, 136, 137, 138, 139, 140, 141, 142, 143, 144] rfl (by decide +kernel)
set_option maxRecDepth 100000 in
theorem gX6_thought_X6_known : GoodIn wsX6_thought (wsV RX6 107 RX6 yX6_known wsX6_known) := goodIn_app (goodIn_of _ (by decide +kernel)) ggX6_thought_X6_known
set_option maxRecDepth 100000 in
theorem ggX6_thought_X6_areMarks : GoodIn wsX6_thought wsX6_areMarks := goodIn_r _ [12] rfl (by decide +kernel)
set_option maxRecDepth 100000 in
theorem gX6_thought_X6_areMarks : GoodIn wsX6_thought (va_wsS RX6 139 yX6_areMarks wsX6_areMarks) := goodIn_app (goodIn_of _ (by decide +kernel)) ggX6_thought_X6_areMarks
set_option maxRecDepth 100000 in
theorem ggX6_thought_X6_isPart : GoodIn wsX6_thought wsX6_isPart := goodIn_r _ [15] rfl (by decide +kernel)
set_option maxRecDepth 100000 in
theorem gX6_thought_X6_isPart : GoodIn wsX6_thought (va_wsS RX6 143 yX6_isPart wsX6_isPart) := goodIn_app (goodIn_of _ (by decide +kernel)) ggX6_thought_X6_isPart
set_option maxRecDepth 100000 in
theorem ggX6_thought_X6_follow : GoodIn wsX6_thought wsX6_follow := goodIn_r _ [19, 2, 20, 21, 22, 6, 23, 24, 25, 26, 27, 28, 29, 30, 31, 32, 33, 34, 35, 36, 37, 38, 39, 40, 41, 42, 43, 44, 45, 46, 47, 48, 49, 50, 51, 52, 53, 54, 55, 56, 57, 58, 59, 60, 61, 62, 63, 64, 65, 66, 67, 68, 69, 70, 71, 72, 73, 74, 75, 76, 77, 78, 79, 80, 81, 82, 83, 84, 85, 86, 87, 88, 89, 90, 91, 92, 93, 94, 95, 96, 97, 98, 99, 100, 101, 102, 103, 104, 105, 106, 107, 108, 109, 110, 111, 112, 113, 114, 145, 146, 147, 148, 149, 150, 151, 130, 131, 132, 133, 134, 135, 136, 137, 138, 139, 140, 141, 142, 143, 144, 152, 153, 154, 155, 156, 157, 158, 159, 160, 161, 162, 163, 164, 165, 166] rfl (by decide +kernel)
set_option maxRecDepth 100000 in
theorem gX6_thought_X6_follow : GoodIn wsX6_thought (wsV RX6 148 RX6 yX6_follow wsX6_follow) := goodIn_app (goodIn_of _ (by decide +kernel)) ggX6_thought_X6_follow
set_option maxRecDepth 100000 in
theorem ggX6_thought_X1_weightsAt : GoodIn wsX6_thought wsX1_weightsAt := goodIn_r _ [117, 43, 94, 95, 40, 96, 97, 67, 64, 68, 93, 63, 65, 158, 159, 160, 161, 162, 163, 164] rfl (by decide +kernel)
set_option maxRecDepth 100000 in
theorem gX6_thought_X1_weightsAt_n152 : GoodIn wsX6_thought (wsX1_weightsAt) := ggX6_thought_X1_weightsAt
set_option maxRecDepth 100000 in
theorem ggX6_thought_X1_together : GoodIn wsX6_thought wsX1_together := goodIn_r _ [120, 89, 90, 91, 40, 92, 43, 93, 63, 64, 65, 94, 95, 96, 97, 67, 68, 158, 159, 160, 161, 162, 163, 164] rfl (by decide +kernel)
set_option maxRecDepth 100000 in
theorem gX6_thought_X1_together_n156 : GoodIn wsX6_thought (wsX1_together) := ggX6_thought_X1_together
set_option maxRecDepth 100000 in
theorem ggX6_thought_X6_lowest : GoodIn wsX6_thought wsX6_lowest := goodIn_r _ [123, 124, 125, 64, 126, 127, 128, 6, 129] rfl (by decide +kernel)
set_option maxRecDepth 100000 in
theorem gX6_thought_X6_lowest : GoodIn wsX6_thought (va_wsS RX6 159 yX6_lowest wsX6_lowest) := goodIn_app (goodIn_of _ (by decide +kernel)) ggX6_thought_X6_lowest
theorem dX6_thought_0 : decode cX6_thought 0 = .ok (.aload_n 0, 1) := by decide +kernel
theorem dX6_thought_1 : decode cX6_thought 1 = .ok (.iload_n 1, 1) := by decide +kernel
theorem dX6_thought_2 : decode cX6_thought 2 = .ok (.invokevirtual 107, 3) := by decide +kernel
theorem dX6_thought_5 : decode cX6_thought 5 = .ok (.astore 5, 2) := by decide +kernel
theorem dX6_thought_7 : decode cX6_thought 7 = .ok (.aload 5, 2) := by decide +kernel
theorem dX6_thought_9 : decode cX6_thought 9 = .ok (.ifnull 27, 3) := by decide +kernel
theorem dX6_thought_12 : decode cX6_thought 12 = .ok (.iload_n 2, 1) := by decide +kernel
theorem dX6_thought_13 : decode cX6_thought 13 = .ok (.invokestatic 139, 3) := by decide +kernel
theorem dX6_thought_16 : decode cX6_thought 16 = .ok (.ifCond .eq 20, 3) := by decide +kernel
theorem dX6_thought_19 : decode cX6_thought 19 = .ok (.iload_n 3, 1) := by decide +kernel
theorem dX6_thought_20 : decode cX6_thought 20 = .ok (.ifCond .lt 16, 3) := by decide +kernel
theorem dX6_thought_23 : decode cX6_thought 23 = .ok (.iload_n 3, 1) := by decide +kernel
theorem dX6_thought_24 : decode cX6_thought 24 = .ok (.iconst 5, 1) := by decide +kernel
theorem dX6_thought_25 : decode cX6_thought 25 = .ok (.if_icmp .ge 11, 3) := by decide +kernel
theorem dX6_thought_28 : decode cX6_thought 28 = .ok (.iload 4, 2) := by decide +kernel
theorem dX6_thought_30 : decode cX6_thought 30 = .ok (.invokestatic 143, 3) := by decide +kernel
theorem dX6_thought_33 : decode cX6_thought 33 = .ok (.ifCond .ne 7, 3) := by decide +kernel
theorem dX6_thought_36 : decode cX6_thought 36 = .ok (.ldc2_w 146, 3) := by decide +kernel
theorem dX6_thought_39 : decode cX6_thought 39 = .ok (.lreturn, 1) := by decide +kernel
theorem dX6_thought_40 : decode cX6_thought 40 = .ok (.aload_n 0, 1) := by decide +kernel
theorem dX6_thought_41 : decode cX6_thought 41 = .ok (.aload 5, 2) := by decide +kernel
theorem dX6_thought_43 : decode cX6_thought 43 = .ok (.iload_n 2, 1) := by decide +kernel
theorem dX6_thought_44 : decode cX6_thought 44 = .ok (.invokevirtual 148, 3) := by decide +kernel
theorem dX6_thought_47 : decode cX6_thought 47 = .ok (.iload_n 2, 1) := by decide +kernel
theorem dX6_thought_48 : decode cX6_thought 48 = .ok (.bipush 100, 2) := by decide +kernel
theorem dX6_thought_50 : decode cX6_thought 50 = .ok (.idiv, 1) := by decide +kernel
theorem dX6_thought_51 : decode cX6_thought 51 = .ok (.istore 6, 2) := by decide +kernel
theorem dX6_thought_53 : decode cX6_thought 53 = .ok (.aload_n 0, 1) := by decide +kernel
theorem dX6_thought_54 : decode cX6_thought 54 = .ok (.getfield 65, 3) := by decide +kernel
theorem dX6_thought_57 : decode cX6_thought 57 = .ok (.iload 6, 2) := by decide +kernel
theorem dX6_thought_59 : decode cX6_thought 59 = .ok (.invokevirtual 152, 3) := by decide +kernel
theorem dX6_thought_62 : decode cX6_thought 62 = .ok (.iload_n 3, 1) := by decide +kernel
theorem dX6_thought_63 : decode cX6_thought 63 = .ok (.laload, 1) := by decide +kernel
theorem dX6_thought_64 : decode cX6_thought 64 = .ok (.aload_n 0, 1) := by decide +kernel
theorem dX6_thought_65 : decode cX6_thought 65 = .ok (.getfield 65, 3) := by decide +kernel
theorem dX6_thought_68 : decode cX6_thought 68 = .ok (.iload 6, 2) := by decide +kernel
theorem dX6_thought_70 : decode cX6_thought 70 = .ok (.invokevirtual 156, 3) := by decide +kernel
theorem dX6_thought_73 : decode cX6_thought 73 = .ok (.iload 4, 2) := by decide +kernel
theorem dX6_thought_75 : decode cX6_thought 75 = .ok (.invokestatic 159, 3) := by decide +kernel
theorem dX6_thought_78 : decode cX6_thought 78 = .ok (.lreturn, 1) := by decide +kernel
set_option maxRecDepth 100000 in
theorem ggX6_moves_X6_known : GoodIn wsX6_moves wsX6_known := goodIn_r _ [6, 7, 8, 117, 118, 119, 120, 121, 122, 123, 124, 125, 126, 127, 128, 129, 130, 131] rfl (by decide +kernel)
set_option maxRecDepth 100000 in
theorem gX6_moves_X6_known : GoodIn wsX6_moves (wsV RX6 107 RX6 yX6_known wsX6_known) := goodIn_app (goodIn_of _ (by decide +kernel)) ggX6_moves_X6_known
set_option maxRecDepth 100000 in
theorem ggX6_moves_X6_areMarks : GoodIn wsX6_moves wsX6_areMarks := goodIn_r _ [11] rfl (by decide +kernel)
set_option maxRecDepth 100000 in
theorem gX6_moves_X6_areMarks : GoodIn wsX6_moves (va_wsS RX6 139 yX6_areMarks wsX6_areMarks) := goodIn_app (goodIn_of _ (by decide +kernel)) ggX6_moves_X6_areMarks
set_option maxRecDepth 100000 in
theorem ggX6_moves_X6_follow : GoodIn wsX6_moves wsX6_follow := goodIn_r _ [15, 1, 16, 17, 18, 5, 19, 20, 21, 22, 23, 24, 25, 26, 27, 28, 29, 30, 31, 32, 33, 34, 35, 36, 37, 38, 39, 40, 41, 42, 43, 44, 45, 46, 47, 48, 49, 50, 51, 52, 53, 54, 55, 56, 57, 58, 59, 60, 61, 62, 63, 64, 65, 66, 67, 68, 69, 70, 71, 72, 73, 74, 75, 76, 77, 78, 79, 80, 81, 82, 83, 84, 85, 86, 87, 88, 89, 90, 91, 92, 93, 94, 95, 96, 97, 98, 99, 100, 101, 102, 103, 104, 105, 106, 107, 108, 109, 110, 132, 133, 134, 135, 136, 137, 138, 117, 118, 119, 120, 121, 122, 123, 124, 125, 126, 127, 128, 129, 130, 131, 139, 140, 141, 142, 143, 144, 145, 146, 147, 148, 149, 150, 151, 152, 153] rfl (by decide +kernel)
set_option maxRecDepth 100000 in
theorem gX6_moves_X6_follow : GoodIn wsX6_moves (wsV RX6 148 RX6 yX6_follow wsX6_follow) := goodIn_app (goodIn_of _ (by decide +kernel)) ggX6_moves_X6_follow
set_option maxRecDepth 100000 in
theorem ggX6_moves_X1_classThen : GoodIn wsX6_moves wsX1_classThen := goodIn_r _ [113, 40, 90, 91, 36, 92, 93, 63, 60, 64, 89, 59, 61, 145, 146, 147, 148, 149, 150, 151] rfl (by decide +kernel)
set_option maxRecDepth 100000 in
theorem gX6_moves_X1_classThen_n163 : GoodIn wsX6_moves (wsX1_classThen) := ggX6_moves_X1_classThen
set_option maxRecDepth 100000 in
theorem ggX6_moves_X1_movedThen : GoodIn wsX6_moves wsX1_movedThen := goodIn_r _ [116, 41, 90, 91, 36, 92, 93, 63, 60, 64, 89, 59, 61, 145, 146, 147, 148, 149, 150, 151] rfl (by decide +kernel)
set_option maxRecDepth 100000 in
theorem gX6_moves_X1_movedThen_n166 : GoodIn wsX6_moves (wsX1_movedThen) := ggX6_moves_X1_movedThen
set_option maxRecDepth 100000 in
theorem ggX6_moves_X1_wish : GoodIn wsX6_moves wsX1_wish := goodIn_r _ [76, 42, 43, 44, 77, 78, 79, 36, 80, 40, 81, 82, 83, 84, 53, 85, 86, 87, 88, 39, 89, 59, 60, 61, 90, 91, 92, 93, 63, 64, 94, 95, 96, 97, 98, 99, 100, 101, 102, 145, 146, 147, 148, 149, 150, 151] rfl (by decide +kernel)
set_option maxRecDepth 100000 in
theorem gX6_moves_X1_wish_n169 : GoodIn wsX6_moves (wsX1_wish) := ggX6_moves_X1_wish
theorem dX6_moves_0 : decode cX6_moves 0 = .ok (.aload_n 0, 1) := by decide +kernel
theorem dX6_moves_1 : decode cX6_moves 1 = .ok (.iload_n 1, 1) := by decide +kernel
theorem dX6_moves_2 : decode cX6_moves 2 = .ok (.invokevirtual 107, 3) := by decide +kernel
theorem dX6_moves_5 : decode cX6_moves 5 = .ok (.astore 4, 2) := by decide +kernel
theorem dX6_moves_7 : decode cX6_moves 7 = .ok (.aload 4, 2) := by decide +kernel
theorem dX6_moves_9 : decode cX6_moves 9 = .ok (.ifnull 19, 3) := by decide +kernel
theorem dX6_moves_12 : decode cX6_moves 12 = .ok (.iload_n 2, 1) := by decide +kernel
theorem dX6_moves_13 : decode cX6_moves 13 = .ok (.invokestatic 139, 3) := by decide +kernel
theorem dX6_moves_16 : decode cX6_moves 16 = .ok (.ifCond .eq 12, 3) := by decide +kernel
theorem dX6_moves_19 : decode cX6_moves 19 = .ok (.iload_n 3, 1) := by decide +kernel
theorem dX6_moves_20 : decode cX6_moves 20 = .ok (.ifCond .lt 8, 3) := by decide +kernel
theorem dX6_moves_23 : decode cX6_moves 23 = .ok (.iload_n 3, 1) := by decide +kernel
theorem dX6_moves_24 : decode cX6_moves 24 = .ok (.iconst 2, 1) := by decide +kernel
theorem dX6_moves_25 : decode cX6_moves 25 = .ok (.if_icmp .le 6, 3) := by decide +kernel
theorem dX6_moves_28 : decode cX6_moves 28 = .ok (.bipush (-5), 2) := by decide +kernel
theorem dX6_moves_30 : decode cX6_moves 30 = .ok (.ireturn, 1) := by decide +kernel
theorem dX6_moves_31 : decode cX6_moves 31 = .ok (.aload_n 0, 1) := by decide +kernel
theorem dX6_moves_32 : decode cX6_moves 32 = .ok (.aload 4, 2) := by decide +kernel
theorem dX6_moves_34 : decode cX6_moves 34 = .ok (.iload_n 2, 1) := by decide +kernel
theorem dX6_moves_35 : decode cX6_moves 35 = .ok (.invokevirtual 148, 3) := by decide +kernel
theorem dX6_moves_38 : decode cX6_moves 38 = .ok (.iload_n 2, 1) := by decide +kernel
theorem dX6_moves_39 : decode cX6_moves 39 = .ok (.bipush 100, 2) := by decide +kernel
theorem dX6_moves_41 : decode cX6_moves 41 = .ok (.idiv, 1) := by decide +kernel
theorem dX6_moves_42 : decode cX6_moves 42 = .ok (.istore 5, 2) := by decide +kernel
theorem dX6_moves_44 : decode cX6_moves 44 = .ok (.iload_n 3, 1) := by decide +kernel
theorem dX6_moves_45 : decode cX6_moves 45 = .ok (.ifCond .ne 13, 3) := by decide +kernel
theorem dX6_moves_48 : decode cX6_moves 48 = .ok (.aload_n 0, 1) := by decide +kernel
theorem dX6_moves_49 : decode cX6_moves 49 = .ok (.getfield 65, 3) := by decide +kernel
theorem dX6_moves_52 : decode cX6_moves 52 = .ok (.iload 5, 2) := by decide +kernel
theorem dX6_moves_54 : decode cX6_moves 54 = .ok (.invokevirtual 163, 3) := by decide +kernel
theorem dX6_moves_57 : decode cX6_moves 57 = .ok (.ireturn, 1) := by decide +kernel
theorem dX6_moves_58 : decode cX6_moves 58 = .ok (.iload_n 3, 1) := by decide +kernel
theorem dX6_moves_59 : decode cX6_moves 59 = .ok (.iconst 1, 1) := by decide +kernel
theorem dX6_moves_60 : decode cX6_moves 60 = .ok (.if_icmp .ne 15, 3) := by decide +kernel
theorem dX6_moves_63 : decode cX6_moves 63 = .ok (.aload_n 0, 1) := by decide +kernel
theorem dX6_moves_64 : decode cX6_moves 64 = .ok (.getfield 65, 3) := by decide +kernel
theorem dX6_moves_67 : decode cX6_moves 67 = .ok (.iload 5, 2) := by decide +kernel
theorem dX6_moves_69 : decode cX6_moves 69 = .ok (.invokevirtual 166, 3) := by decide +kernel
theorem dX6_moves_72 : decode cX6_moves 72 = .ok (.goto 14, 3) := by decide +kernel
theorem dX6_moves_75 : decode cX6_moves 75 = .ok (.aload_n 0, 1) := by decide +kernel
theorem dX6_moves_76 : decode cX6_moves 76 = .ok (.getfield 65, 3) := by decide +kernel
theorem dX6_moves_79 : decode cX6_moves 79 = .ok (.iload 5, 2) := by decide +kernel
theorem dX6_moves_81 : decode cX6_moves 81 = .ok (.iconst 1, 1) := by decide +kernel
theorem dX6_moves_82 : decode cX6_moves 82 = .ok (.isub, 1) := by decide +kernel
theorem dX6_moves_83 : decode cX6_moves 83 = .ok (.invokevirtual 169, 3) := by decide +kernel
theorem dX6_moves_86 : decode cX6_moves 86 = .ok (.ireturn, 1) := by decide +kernel
set_option maxRecDepth 100000 in
theorem ggX6_likely_X6_known : GoodIn wsX6_likely wsX6_known := goodIn_r _ [7, 8, 9, 135, 136, 137, 138, 139, 140, 141, 142, 143, 144, 145, 146, 147, 148, 149] rfl (by decide +kernel)
set_option maxRecDepth 100000 in
theorem gX6_likely_X6_known : GoodIn wsX6_likely (wsV RX6 107 RX6 yX6_known wsX6_known) := goodIn_app (goodIn_of _ (by decide +kernel)) ggX6_likely_X6_known
set_option maxRecDepth 100000 in
theorem ggX6_likely_X6_areMarks : GoodIn wsX6_likely wsX6_areMarks := goodIn_r _ [12] rfl (by decide +kernel)
set_option maxRecDepth 100000 in
theorem gX6_likely_X6_areMarks : GoodIn wsX6_likely (va_wsS RX6 139 yX6_areMarks wsX6_areMarks) := goodIn_app (goodIn_of _ (by decide +kernel)) ggX6_likely_X6_areMarks
set_option maxRecDepth 100000 in
theorem ggX6_likely_X6_follow : GoodIn wsX6_likely wsX6_follow := goodIn_r _ [16, 2, 17, 18, 19, 6, 20, 21, 22, 23, 24, 25, 26, 27, 28, 29, 30, 31, 32, 33, 34, 35, 36, 37, 38, 39, 40, 41, 42, 43, 44, 45, 46, 47, 48, 49, 50, 51, 52, 53, 54, 55, 56, 57, 58, 59, 60, 61, 62, 63, 64, 65, 66, 67, 68, 69, 70, 71, 72, 73, 74, 75, 76, 77, 78, 79, 80, 81, 82, 83, 84, 85, 86, 87, 88, 89, 90, 91, 92, 93, 94, 95, 96, 97, 98, 99, 100, 101, 102, 103, 104, 105, 106, 107, 108, 109, 110, 111, 150, 151, 152, 153, 154, 155, 156, 135, 136, 137, 138, 139, 140, 141, 142, 143, 144, 145, 146, 147, 148, 149, 157, 158, 159, 160, 161, 162, 163, 164, 165, 166, 167, 168, 169, 170, 171] rfl (by decide +kernel)
set_option maxRecDepth 100000 in
theorem gX6_likely_X6_follow : GoodIn wsX6_likely (wsV RX6 148 RX6 yX6_follow wsX6_follow) := goodIn_app (goodIn_of _ (by decide +kernel)) ggX6_likely_X6_follow
set_option maxRecDepth 100000 in
theorem ggX6_likely_X1_together : GoodIn wsX6_likely wsX1_together := goodIn_r _ [114, 86, 87, 88, 37, 89, 40, 90, 60, 61, 62, 91, 92, 93, 94, 64, 65, 163, 164, 165, 166, 167, 168, 169] rfl (by decide +kernel)
set_option maxRecDepth 100000 in
theorem gX6_likely_X1_together_n156 : GoodIn wsX6_likely (wsX1_together) := ggX6_likely_X1_together
set_option maxRecDepth 100000 in
theorem ggX6_likely_X6_grown : GoodIn wsX6_likely wsX6_grown := goodIn_r _ [117, 118] rfl (by decide +kernel)
set_option maxRecDepth 100000 in
theorem gX6_likely_X6_grown : GoodIn wsX6_likely (va_wsS RX6 172 yX6_grown wsX6_grown) := goodIn_app (goodIn_of _ (by decide +kernel)) ggX6_likely_X6_grown
set_option maxRecDepth 100000 in
theorem ggX6_likely_X6_lowest : GoodIn wsX6_likely wsX6_lowest := goodIn_r _ [121, 122, 123, 61, 124, 125, 126, 6, 127] rfl (by decide +kernel)
set_option maxRecDepth 100000 in
theorem gX6_likely_X6_lowest : GoodIn wsX6_likely (va_wsS RX6 159 yX6_lowest wsX6_lowest) := goodIn_app (goodIn_of _ (by decide +kernel)) ggX6_likely_X6_lowest
set_option maxRecDepth 100000 in
theorem ggX6_likely_X1_fit : GoodIn wsX6_likely wsX1_fit := goodIn_r _ [130, 131, 132, 133, 37, 134, 41, 91, 92, 93, 94, 64, 61, 65, 90, 60, 62, 86, 87, 88, 89, 40, 163, 164, 165, 166, 167, 168, 169] rfl (by decide +kernel)
set_option maxRecDepth 100000 in
theorem gX6_likely_X1_fit_n176 : GoodIn wsX6_likely (wsX1_fit) := ggX6_likely_X1_fit
theorem dX6_likely_0 : decode cX6_likely 0 = .ok (.aload_n 0, 1) := by decide +kernel
theorem dX6_likely_1 : decode cX6_likely 1 = .ok (.iload_n 1, 1) := by decide +kernel
theorem dX6_likely_2 : decode cX6_likely 2 = .ok (.invokevirtual 107, 3) := by decide +kernel
theorem dX6_likely_5 : decode cX6_likely 5 = .ok (.astore 4, 2) := by decide +kernel
theorem dX6_likely_7 : decode cX6_likely 7 = .ok (.aload 4, 2) := by decide +kernel
theorem dX6_likely_9 : decode cX6_likely 9 = .ok (.ifnull 19, 3) := by decide +kernel
theorem dX6_likely_12 : decode cX6_likely 12 = .ok (.iload_n 2, 1) := by decide +kernel
theorem dX6_likely_13 : decode cX6_likely 13 = .ok (.invokestatic 139, 3) := by decide +kernel
theorem dX6_likely_16 : decode cX6_likely 16 = .ok (.ifCond .eq 12, 3) := by decide +kernel
theorem dX6_likely_19 : decode cX6_likely 19 = .ok (.iload_n 3, 1) := by decide +kernel
theorem dX6_likely_20 : decode cX6_likely 20 = .ok (.ifCond .lt 8, 3) := by decide +kernel
theorem dX6_likely_23 : decode cX6_likely 23 = .ok (.iload_n 3, 1) := by decide +kernel
theorem dX6_likely_24 : decode cX6_likely 24 = .ok (.iconst 3, 1) := by decide +kernel
theorem dX6_likely_25 : decode cX6_likely 25 = .ok (.if_icmp .le 7, 3) := by decide +kernel
theorem dX6_likely_28 : decode cX6_likely 28 = .ok (.ldc2_w 146, 3) := by decide +kernel
theorem dX6_likely_31 : decode cX6_likely 31 = .ok (.lreturn, 1) := by decide +kernel
theorem dX6_likely_32 : decode cX6_likely 32 = .ok (.aload_n 0, 1) := by decide +kernel
theorem dX6_likely_33 : decode cX6_likely 33 = .ok (.aload 4, 2) := by decide +kernel
theorem dX6_likely_35 : decode cX6_likely 35 = .ok (.iload_n 2, 1) := by decide +kernel
theorem dX6_likely_36 : decode cX6_likely 36 = .ok (.invokevirtual 148, 3) := by decide +kernel
theorem dX6_likely_39 : decode cX6_likely 39 = .ok (.iload_n 2, 1) := by decide +kernel
theorem dX6_likely_40 : decode cX6_likely 40 = .ok (.bipush 100, 2) := by decide +kernel
theorem dX6_likely_42 : decode cX6_likely 42 = .ok (.idiv, 1) := by decide +kernel
theorem dX6_likely_43 : decode cX6_likely 43 = .ok (.istore 5, 2) := by decide +kernel
theorem dX6_likely_45 : decode cX6_likely 45 = .ok (.iload_n 3, 1) := by decide +kernel
theorem dX6_likely_46 : decode cX6_likely 46 = .ok (.iconst 2, 1) := by decide +kernel
theorem dX6_likely_47 : decode cX6_likely 47 = .ok (.if_icmp .ge 30, 3) := by decide +kernel
theorem dX6_likely_50 : decode cX6_likely 50 = .ok (.aload_n 0, 1) := by decide +kernel
theorem dX6_likely_51 : decode cX6_likely 51 = .ok (.getfield 65, 3) := by decide +kernel
theorem dX6_likely_54 : decode cX6_likely 54 = .ok (.iload 5, 2) := by decide +kernel
theorem dX6_likely_56 : decode cX6_likely 56 = .ok (.invokevirtual 156, 3) := by decide +kernel
theorem dX6_likely_59 : decode cX6_likely 59 = .ok (.aload_n 0, 1) := by decide +kernel
theorem dX6_likely_60 : decode cX6_likely 60 = .ok (.getfield 65, 3) := by decide +kernel
theorem dX6_likely_63 : decode cX6_likely 63 = .ok (.iconst 0, 1) := by decide +kernel
theorem dX6_likely_64 : decode cX6_likely 64 = .ok (.invokevirtual 156, 3) := by decide +kernel
theorem dX6_likely_67 : decode cX6_likely 67 = .ok (.iload 5, 2) := by decide +kernel
theorem dX6_likely_69 : decode cX6_likely 69 = .ok (.invokestatic 172, 3) := by decide +kernel
theorem dX6_likely_72 : decode cX6_likely 72 = .ok (.iload_n 3, 1) := by decide +kernel
theorem dX6_likely_73 : decode cX6_likely 73 = .ok (.invokestatic 159, 3) := by decide +kernel
theorem dX6_likely_76 : decode cX6_likely 76 = .ok (.lreturn, 1) := by decide +kernel
theorem dX6_likely_77 : decode cX6_likely 77 = .ok (.aload_n 0, 1) := by decide +kernel
theorem dX6_likely_78 : decode cX6_likely 78 = .ok (.getfield 65, 3) := by decide +kernel
theorem dX6_likely_81 : decode cX6_likely 81 = .ok (.iload 5, 2) := by decide +kernel
theorem dX6_likely_83 : decode cX6_likely 83 = .ok (.invokevirtual 176, 3) := by decide +kernel
theorem dX6_likely_86 : decode cX6_likely 86 = .ok (.aload_n 0, 1) := by decide +kernel
theorem dX6_likely_87 : decode cX6_likely 87 = .ok (.getfield 65, 3) := by decide +kernel
theorem dX6_likely_90 : decode cX6_likely 90 = .ok (.iload 5, 2) := by decide +kernel
theorem dX6_likely_92 : decode cX6_likely 92 = .ok (.invokevirtual 156, 3) := by decide +kernel
theorem dX6_likely_95 : decode cX6_likely 95 = .ok (.iload_n 3, 1) := by decide +kernel
theorem dX6_likely_96 : decode cX6_likely 96 = .ok (.iconst 2, 1) := by decide +kernel
theorem dX6_likely_97 : decode cX6_likely 97 = .ok (.isub, 1) := by decide +kernel
theorem dX6_likely_98 : decode cX6_likely 98 = .ok (.invokestatic 159, 3) := by decide +kernel
theorem dX6_likely_101 : decode cX6_likely 101 = .ok (.lreturn, 1) := by decide +kernel
set_option maxRecDepth 100000 in
theorem ggX6_mean_X6_known : GoodIn wsX6_mean wsX6_known := goodIn_r _ [7, 8, 9, 161, 162, 163, 164, 165, 166, 167, 168, 169, 170, 171, 172, 173, 174, 175] rfl (by decide +kernel)
set_option maxRecDepth 100000 in
theorem gX6_mean_X6_known : GoodIn wsX6_mean (wsV RX6 107 RX6 yX6_known wsX6_known) := goodIn_app (goodIn_of _ (by decide +kernel)) ggX6_mean_X6_known
set_option maxRecDepth 100000 in
theorem ggX6_mean_X6_start : GoodIn wsX6_mean wsX6_start := goodIn_r _ [13, 14, 15, 16, 2, 17, 18, 19, 20, 21, 22, 23, 24, 25, 26, 27, 28, 29, 30, 31, 32, 33, 34, 35, 36, 37, 38, 161, 162, 163, 164, 165, 166, 167, 168, 169, 170, 171, 172, 173, 174, 175, 154, 155, 156, 157, 158, 159, 160, 176, 177, 178, 179, 180, 181, 182, 183, 184, 185, 186, 187, 188] rfl (by decide +kernel)
set_option maxRecDepth 100000 in
theorem gX6_mean_X6_start : GoodIn wsX6_mean (wsV RX6 179 RX6 yX6_start wsX6_start) := goodIn_app (goodIn_of _ (by decide +kernel)) ggX6_mean_X6_start
set_option maxRecDepth 100000 in
theorem ggX6_mean_X1_ends : GoodIn wsX6_mean wsX1_ends := goodIn_r _ [41, 42, 43, 44, 30, 45, 33, 46, 34, 35, 47, 18, 48, 49, 24, 50, 22, 51, 52, 53, 54, 55, 56, 57, 58, 59, 60, 61, 23, 62, 63, 64, 65, 66, 67, 68, 69, 38, 70, 71, 72, 73, 74, 36, 37, 75, 76, 77, 78, 79, 80, 81, 82, 83, 84, 85, 86, 87, 88, 89, 90, 91, 92, 93, 94, 95, 96, 97, 98, 99, 100, 101, 102, 103, 104, 105, 6, 106, 107, 108, 109, 39, 40, 182, 183, 184, 185, 186, 187, 188, 176, 177, 178, 179, 180, 181, 189, 190] rfl (by decide +kernel)
set_option maxRecDepth 100000 in
theorem gX6_mean_X1_ends_n183 : GoodIn wsX6_mean (wsX1_ends) := ggX6_mean_X1_ends
set_option maxRecDepth 100000 in
theorem ggX6_mean_X1_rights : GoodIn wsX6_mean wsX1_rights := goodIn_r _ [112, 38, 113, 114, 115, 116, 117, 118, 119, 120, 121, 122, 30, 123, 83, 84, 85, 86, 33, 87, 52, 53, 54, 88, 89, 90, 91, 56, 57, 66, 67, 68, 69, 46, 34, 35, 70, 47, 18, 48, 49, 24, 50, 22, 51, 55, 58, 59, 60, 61, 23, 62, 63, 64, 65, 71, 72, 73, 74, 36, 37, 75, 76, 77, 78, 79, 80, 81, 82, 92, 93, 94, 95, 96, 97, 98, 99, 100, 101, 102, 103, 104, 105, 6, 106, 107, 108, 124, 110, 111, 182, 183, 184, 185, 186, 187, 188, 176, 177, 178, 179, 180, 181, 189, 190] rfl (by decide +kernel)
set_option maxRecDepth 100000 in
theorem gX6_mean_X1_rights_n186 : GoodIn wsX6_mean (wsX1_rights) := ggX6_mean_X1_rights
set_option maxRecDepth 100000 in
theorem ggX6_mean_X1_best : GoodIn wsX6_mean wsX1_best := goodIn_r _ [127, 42, 43, 44, 30, 45, 33, 46, 34, 35, 47, 18, 48, 49, 24, 50, 22, 51, 52, 53, 54, 55, 56, 57, 58, 59, 60, 61, 23, 62, 63, 64, 65, 66, 67, 68, 69, 38, 70, 120, 121, 122, 123, 83, 84, 85, 86, 87, 88, 89, 90, 91, 128, 129, 130, 131, 132, 133, 134, 105, 6, 106, 107, 108, 101, 102, 103, 104, 135, 125, 126, 182, 183, 184, 185, 186, 187, 188, 176, 177, 178, 179, 180, 181, 189, 190] rfl (by decide +kernel)
set_option maxRecDepth 100000 in
theorem gX6_mean_X1_best_n189 : GoodIn wsX6_mean (wsX1_best) := ggX6_mean_X1_best
set_option maxRecDepth 100000 in
theorem ggX6_mean_X2_together : GoodIn wsX6_mean wsX2_together := goodIn_r _ [139, 140, 154, 155, 156, 157, 158, 159, 160] rfl (by decide +kernel)
set_option maxRecDepth 100000 in
theorem gX6_mean_X2_together_n112 : GoodIn wsX6_mean (wsX2_together) := ggX6_mean_X2_together
set_option maxRecDepth 100000 in
theorem ggX6_mean_X6_grown : GoodIn wsX6_mean wsX6_grown := goodIn_r _ [143, 144] rfl (by decide +kernel)
set_option maxRecDepth 100000 in
theorem gX6_mean_X6_grown : GoodIn wsX6_mean (va_wsS RX6 172 yX6_grown wsX6_grown) := goodIn_app (goodIn_of _ (by decide +kernel)) ggX6_mean_X6_grown
set_option maxRecDepth 100000 in
theorem ggX6_mean_X6_lowest : GoodIn wsX6_mean wsX6_lowest := goodIn_r _ [147, 148, 149, 53, 150, 151, 152, 6, 153] rfl (by decide +kernel)
set_option maxRecDepth 100000 in
theorem gX6_mean_X6_lowest : GoodIn wsX6_mean (va_wsS RX6 159 yX6_lowest wsX6_lowest) := goodIn_app (goodIn_of _ (by decide +kernel)) ggX6_mean_X6_lowest
theorem dX6_mean_0 : decode cX6_mean 0 = .ok (.aload_n 0, 1) := by decide +kernel
theorem dX6_mean_1 : decode cX6_mean 1 = .ok (.iload_n 1, 1) := by decide +kernel
theorem dX6_mean_2 : decode cX6_mean 2 = .ok (.invokevirtual 107, 3) := by decide +kernel
theorem dX6_mean_5 : decode cX6_mean 5 = .ok (.astore_n 3, 1) := by decide +kernel
theorem dX6_mean_6 : decode cX6_mean 6 = .ok (.aload_n 3, 1) := by decide +kernel
theorem dX6_mean_7 : decode cX6_mean 7 = .ok (.ifnull 13, 3) := by decide +kernel
theorem dX6_mean_10 : decode cX6_mean 10 = .ok (.iload_n 2, 1) := by decide +kernel
theorem dX6_mean_11 : decode cX6_mean 11 = .ok (.ifCond .lt 9, 3) := by decide +kernel
theorem dX6_mean_14 : decode cX6_mean 14 = .ok (.iload_n 2, 1) := by decide +kernel
theorem dX6_mean_15 : decode cX6_mean 15 = .ok (.bipush 7, 2) := by decide +kernel
theorem dX6_mean_17 : decode cX6_mean 17 = .ok (.if_icmp .le 7, 3) := by decide +kernel
theorem dX6_mean_20 : decode cX6_mean 20 = .ok (.ldc2_w 146, 3) := by decide +kernel
theorem dX6_mean_23 : decode cX6_mean 23 = .ok (.lreturn, 1) := by decide +kernel
theorem dX6_mean_24 : decode cX6_mean 24 = .ok (.aload_n 0, 1) := by decide +kernel
theorem dX6_mean_25 : decode cX6_mean 25 = .ok (.aload_n 3, 1) := by decide +kernel
theorem dX6_mean_26 : decode cX6_mean 26 = .ok (.aload_n 3, 1) := by decide +kernel
theorem dX6_mean_27 : decode cX6_mean 27 = .ok (.getfield 119, 3) := by decide +kernel
theorem dX6_mean_30 : decode cX6_mean 30 = .ok (.aload_n 3, 1) := by decide +kernel
theorem dX6_mean_31 : decode cX6_mean 31 = .ok (.getfield 128, 3) := by decide +kernel
theorem dX6_mean_34 : decode cX6_mean 34 = .ok (.aload_n 3, 1) := by decide +kernel
theorem dX6_mean_35 : decode cX6_mean 35 = .ok (.getfield 122, 3) := by decide +kernel
theorem dX6_mean_38 : decode cX6_mean 38 = .ok (.invokevirtual 179, 3) := by decide +kernel
theorem dX6_mean_41 : decode cX6_mean 41 = .ok (.iload_n 2, 1) := by decide +kernel
theorem dX6_mean_42 : decode cX6_mean 42 = .ok (.iconst 2, 1) := by decide +kernel
theorem dX6_mean_43 : decode cX6_mean 43 = .ok (.idiv, 1) := by decide +kernel
theorem dX6_mean_44 : decode cX6_mean 44 = .ok (.tableswitch 67 0 2 #[28, 41, 54], 28) := by decide +kernel
theorem dX6_mean_72 : decode cX6_mean 72 = .ok (.aload_n 0, 1) := by decide +kernel
theorem dX6_mean_73 : decode cX6_mean 73 = .ok (.getfield 65, 3) := by decide +kernel
theorem dX6_mean_76 : decode cX6_mean 76 = .ok (.iconst 0, 1) := by decide +kernel
theorem dX6_mean_77 : decode cX6_mean 77 = .ok (.invokevirtual 183, 3) := by decide +kernel
theorem dX6_mean_80 : decode cX6_mean 80 = .ok (.lstore 4, 2) := by decide +kernel
theorem dX6_mean_82 : decode cX6_mean 82 = .ok (.goto 48, 3) := by decide +kernel
theorem dX6_mean_85 : decode cX6_mean 85 = .ok (.aload_n 0, 1) := by decide +kernel
theorem dX6_mean_86 : decode cX6_mean 86 = .ok (.getfield 65, 3) := by decide +kernel
theorem dX6_mean_89 : decode cX6_mean 89 = .ok (.iconst 0, 1) := by decide +kernel
theorem dX6_mean_90 : decode cX6_mean 90 = .ok (.invokevirtual 186, 3) := by decide +kernel
theorem dX6_mean_93 : decode cX6_mean 93 = .ok (.lstore 4, 2) := by decide +kernel
theorem dX6_mean_95 : decode cX6_mean 95 = .ok (.goto 35, 3) := by decide +kernel
theorem dX6_mean_98 : decode cX6_mean 98 = .ok (.aload_n 0, 1) := by decide +kernel
theorem dX6_mean_99 : decode cX6_mean 99 = .ok (.getfield 65, 3) := by decide +kernel
theorem dX6_mean_102 : decode cX6_mean 102 = .ok (.iconst 0, 1) := by decide +kernel
theorem dX6_mean_103 : decode cX6_mean 103 = .ok (.invokevirtual 189, 3) := by decide +kernel
theorem dX6_mean_106 : decode cX6_mean 106 = .ok (.lstore 4, 2) := by decide +kernel
theorem dX6_mean_108 : decode cX6_mean 108 = .ok (.goto 22, 3) := by decide +kernel
theorem dX6_mean_111 : decode cX6_mean 111 = .ok (.aload_n 0, 1) := by decide +kernel
theorem dX6_mean_112 : decode cX6_mean 112 = .ok (.getfield 65, 3) := by decide +kernel
theorem dX6_mean_115 : decode cX6_mean 115 = .ok (.iconst 0, 1) := by decide +kernel
theorem dX6_mean_116 : decode cX6_mean 116 = .ok (.invokevirtual 189, 3) := by decide +kernel
theorem dX6_mean_119 : decode cX6_mean 119 = .ok (.aload_n 0, 1) := by decide +kernel
theorem dX6_mean_120 : decode cX6_mean 120 = .ok (.getfield 65, 3) := by decide +kernel
theorem dX6_mean_123 : decode cX6_mean 123 = .ok (.iconst 0, 1) := by decide +kernel
theorem dX6_mean_124 : decode cX6_mean 124 = .ok (.invokevirtual 183, 3) := by decide +kernel
theorem dX6_mean_127 : decode cX6_mean 127 = .ok (.lsub, 1) := by decide +kernel
theorem dX6_mean_128 : decode cX6_mean 128 = .ok (.lstore 4, 2) := by decide +kernel
theorem dX6_mean_130 : decode cX6_mean 130 = .ok (.lload 4, 2) := by decide +kernel
theorem dX6_mean_132 : decode cX6_mean 132 = .ok (.aload_n 3, 1) := by decide +kernel
theorem dX6_mean_133 : decode cX6_mean 133 = .ok (.invokevirtual 112, 3) := by decide +kernel
theorem dX6_mean_136 : decode cX6_mean 136 = .ok (.i2l, 1) := by decide +kernel
theorem dX6_mean_137 : decode cX6_mean 137 = .ok (.iconst 5, 1) := by decide +kernel
theorem dX6_mean_138 : decode cX6_mean 138 = .ok (.invokestatic 172, 3) := by decide +kernel
theorem dX6_mean_141 : decode cX6_mean 141 = .ok (.iload_n 2, 1) := by decide +kernel
theorem dX6_mean_142 : decode cX6_mean 142 = .ok (.iconst 2, 1) := by decide +kernel
theorem dX6_mean_143 : decode cX6_mean 143 = .ok (.irem, 1) := by decide +kernel
theorem dX6_mean_144 : decode cX6_mean 144 = .ok (.invokestatic 159, 3) := by decide +kernel
theorem dX6_mean_147 : decode cX6_mean 147 = .ok (.lreturn, 1) := by decide +kernel
set_option maxRecDepth 100000 in
theorem ggX6_off_X6_known : GoodIn wsX6_off wsX6_known := goodIn_r _ [6, 7, 8, 143, 144, 145, 146, 147, 148, 149, 150, 151, 152, 153, 154, 155, 156, 157] rfl (by decide +kernel)
set_option maxRecDepth 100000 in
theorem gX6_off_X6_known : GoodIn wsX6_off (wsV RX6 107 RX6 yX6_known wsX6_known) := goodIn_app (goodIn_of _ (by decide +kernel)) ggX6_off_X6_known
set_option maxRecDepth 100000 in
theorem ggX6_off_X6_isPart : GoodIn wsX6_off wsX6_isPart := goodIn_r _ [11] rfl (by decide +kernel)
set_option maxRecDepth 100000 in
theorem gX6_off_X6_isPart : GoodIn wsX6_off (va_wsS RX6 143 yX6_isPart wsX6_isPart) := goodIn_app (goodIn_of _ (by decide +kernel)) ggX6_off_X6_isPart
set_option maxRecDepth 100000 in
theorem ggX6_off_X6_endsBy : GoodIn wsX6_off wsX6_endsBy := goodIn_r _ [15, 16, 17, 18, 19, 5, 20, 21, 22, 23, 24, 25, 26, 27, 28, 29, 30, 31, 32, 33, 34, 35, 36, 37, 38, 39, 40, 41, 42, 43, 44, 45, 46, 47, 48, 49, 50, 51, 52, 53, 54, 55, 56, 57, 58, 59, 60, 61, 62, 63, 64, 65, 66, 67, 68, 69, 70, 71, 72, 73, 74, 75, 76, 77, 78, 79, 80, 81, 82, 83, 84, 85, 86, 87, 88, 89, 90, 91, 92, 93, 94, 95, 96, 97, 98, 99, 100, 101, 102, 103, 104, 105, 106, 107, 108, 109, 110, 111, 112, 113, 114, 115, 116, 143, 144, 145, 146, 147, 148, 149, 150, 151, 152, 153, 154, 155, 156, 157, 136, 137, 138, 139, 140, 141, 142, 158, 159, 160, 161, 162, 163, 164, 165, 166, 167, 168, 169, 170, 171, 172] rfl (by decide +kernel)
set_option maxRecDepth 100000 in
theorem gX6_off_X6_endsBy : GoodIn wsX6_off (wsV RX6 192 RX6 yX6_endsBy wsX6_endsBy) := goodIn_app (goodIn_of _ (by decide +kernel)) ggX6_off_X6_endsBy
set_option maxRecDepth 100000 in
theorem ggX6_off_X6_held : GoodIn wsX6_off wsX6_held := goodIn_r _ [113, 114, 63, 60, 64, 115, 59, 61] rfl (by decide +kernel)
set_option maxRecDepth 100000 in
theorem gX6_off_X6_held : GoodIn wsX6_off (va_wsS RX6 196 yX6_held wsX6_held) := goodIn_app (goodIn_of _ (by decide +kernel)) ggX6_off_X6_held
set_option maxRecDepth 100000 in
theorem ggX6_off_X2_together : GoodIn wsX6_off wsX2_together := goodIn_r _ [121, 122, 136, 137, 138, 139, 140, 141, 142] rfl (by decide +kernel)
set_option maxRecDepth 100000 in
theorem gX6_off_X2_together_n112 : GoodIn wsX6_off (wsX2_together) := ggX6_off_X2_together
set_option maxRecDepth 100000 in
theorem ggX6_off_X6_grown : GoodIn wsX6_off wsX6_grown := goodIn_r _ [125, 126] rfl (by decide +kernel)
set_option maxRecDepth 100000 in
theorem gX6_off_X6_grown : GoodIn wsX6_off (va_wsS RX6 172 yX6_grown wsX6_grown) := goodIn_app (goodIn_of _ (by decide +kernel)) ggX6_off_X6_grown
set_option maxRecDepth 100000 in
theorem ggX6_off_X6_lowest : GoodIn wsX6_off wsX6_lowest := goodIn_r _ [129, 130, 131, 60, 132, 133, 134, 5, 135] rfl (by decide +kernel)
set_option maxRecDepth 100000 in
theorem gX6_off_X6_lowest : GoodIn wsX6_off (va_wsS RX6 159 yX6_lowest wsX6_lowest) := goodIn_app (goodIn_of _ (by decide +kernel)) ggX6_off_X6_lowest
theorem dX6_off_0 : decode cX6_off 0 = .ok (.aload_n 0, 1) := by decide +kernel
theorem dX6_off_1 : decode cX6_off 1 = .ok (.iload_n 1, 1) := by decide +kernel
theorem dX6_off_2 : decode cX6_off 2 = .ok (.invokevirtual 107, 3) := by decide +kernel
theorem dX6_off_5 : decode cX6_off 5 = .ok (.astore 4, 2) := by decide +kernel
theorem dX6_off_7 : decode cX6_off 7 = .ok (.aload 4, 2) := by decide +kernel
theorem dX6_off_9 : decode cX6_off 9 = .ok (.ifnull 20, 3) := by decide +kernel
theorem dX6_off_12 : decode cX6_off 12 = .ok (.iload_n 2, 1) := by decide +kernel
theorem dX6_off_13 : decode cX6_off 13 = .ok (.iconst 1, 1) := by decide +kernel
theorem dX6_off_14 : decode cX6_off 14 = .ok (.if_icmp .eq 8, 3) := by decide +kernel
theorem dX6_off_17 : decode cX6_off 17 = .ok (.iload_n 2, 1) := by decide +kernel
theorem dX6_off_18 : decode cX6_off 18 = .ok (.iconst (-1), 1) := by decide +kernel
theorem dX6_off_19 : decode cX6_off 19 = .ok (.if_icmp .ne 10, 3) := by decide +kernel
theorem dX6_off_22 : decode cX6_off 22 = .ok (.iload_n 3, 1) := by decide +kernel
theorem dX6_off_23 : decode cX6_off 23 = .ok (.invokestatic 143, 3) := by decide +kernel
theorem dX6_off_26 : decode cX6_off 26 = .ok (.ifCond .ne 7, 3) := by decide +kernel
theorem dX6_off_29 : decode cX6_off 29 = .ok (.ldc2_w 146, 3) := by decide +kernel
theorem dX6_off_32 : decode cX6_off 32 = .ok (.lreturn, 1) := by decide +kernel
theorem dX6_off_33 : decode cX6_off 33 = .ok (.aload_n 0, 1) := by decide +kernel
theorem dX6_off_34 : decode cX6_off 34 = .ok (.aload 4, 2) := by decide +kernel
theorem dX6_off_36 : decode cX6_off 36 = .ok (.aload 4, 2) := by decide +kernel
theorem dX6_off_38 : decode cX6_off 38 = .ok (.getfield 119, 3) := by decide +kernel
theorem dX6_off_41 : decode cX6_off 41 = .ok (.aload 4, 2) := by decide +kernel
theorem dX6_off_43 : decode cX6_off 43 = .ok (.getfield 128, 3) := by decide +kernel
theorem dX6_off_46 : decode cX6_off 46 = .ok (.aload 4, 2) := by decide +kernel
theorem dX6_off_48 : decode cX6_off 48 = .ok (.getfield 122, 3) := by decide +kernel
theorem dX6_off_51 : decode cX6_off 51 = .ok (.invokevirtual 192, 3) := by decide +kernel
theorem dX6_off_54 : decode cX6_off 54 = .ok (.lstore 5, 2) := by decide +kernel
theorem dX6_off_56 : decode cX6_off 56 = .ok (.aload_n 0, 1) := by decide +kernel
theorem dX6_off_57 : decode cX6_off 57 = .ok (.aload 4, 2) := by decide +kernel
theorem dX6_off_59 : decode cX6_off 59 = .ok (.aload 4, 2) := by decide +kernel
theorem dX6_off_61 : decode cX6_off 61 = .ok (.getfield 119, 3) := by decide +kernel
theorem dX6_off_64 : decode cX6_off 64 = .ok (.aload 4, 2) := by decide +kernel
theorem dX6_off_66 : decode cX6_off 66 = .ok (.getfield 128, 3) := by decide +kernel
theorem dX6_off_69 : decode cX6_off 69 = .ok (.aload 4, 2) := by decide +kernel
theorem dX6_off_71 : decode cX6_off 71 = .ok (.getfield 122, 3) := by decide +kernel
theorem dX6_off_74 : decode cX6_off 74 = .ok (.iload_n 2, 1) := by decide +kernel
theorem dX6_off_75 : decode cX6_off 75 = .ok (.iadd, 1) := by decide +kernel
theorem dX6_off_76 : decode cX6_off 76 = .ok (.invokestatic 196, 3) := by decide +kernel
theorem dX6_off_79 : decode cX6_off 79 = .ok (.invokevirtual 192, 3) := by decide +kernel
theorem dX6_off_82 : decode cX6_off 82 = .ok (.lstore 7, 2) := by decide +kernel
theorem dX6_off_84 : decode cX6_off 84 = .ok (.lload 5, 2) := by decide +kernel
theorem dX6_off_86 : decode cX6_off 86 = .ok (.lload 7, 2) := by decide +kernel
theorem dX6_off_88 : decode cX6_off 88 = .ok (.lsub, 1) := by decide +kernel
theorem dX6_off_89 : decode cX6_off 89 = .ok (.aload 4, 2) := by decide +kernel
theorem dX6_off_91 : decode cX6_off 91 = .ok (.invokevirtual 112, 3) := by decide +kernel
theorem dX6_off_94 : decode cX6_off 94 = .ok (.i2l, 1) := by decide +kernel
theorem dX6_off_95 : decode cX6_off 95 = .ok (.iconst 5, 1) := by decide +kernel
theorem dX6_off_96 : decode cX6_off 96 = .ok (.invokestatic 172, 3) := by decide +kernel
theorem dX6_off_99 : decode cX6_off 99 = .ok (.iload_n 3, 1) := by decide +kernel
theorem dX6_off_100 : decode cX6_off 100 = .ok (.invokestatic 159, 3) := by decide +kernel
theorem dX6_off_103 : decode cX6_off 103 = .ok (.lreturn, 1) := by decide +kernel
set_option maxRecDepth 100000 in
theorem ggX6_rule_X6_known : GoodIn wsX6_rule wsX6_known := goodIn_r _ [6, 7, 8, 121, 122, 123, 124, 125, 126, 127, 128, 129, 130, 131, 132, 133, 134, 135] rfl (by decide +kernel)
set_option maxRecDepth 100000 in
theorem gX6_rule_X6_known : GoodIn wsX6_rule (wsV RX6 107 RX6 yX6_known wsX6_known) := goodIn_app (goodIn_of _ (by decide +kernel)) ggX6_rule_X6_known
set_option maxRecDepth 100000 in
theorem ggX6_rule_X6_endsBy : GoodIn wsX6_rule wsX6_endsBy := goodIn_r _ [12, 13, 14, 15, 16, 5, 17, 18, 19, 20, 21, 22, 23, 24, 25, 26, 27, 28, 29, 30, 31, 32, 33, 34, 35, 36, 37, 38, 39, 40, 41, 42, 43, 44, 45, 46, 47, 48, 49, 50, 51, 52, 53, 54, 55, 56, 57, 58, 59, 60, 61, 62, 63, 64, 65, 66, 67, 68, 69, 70, 71, 72, 73, 74, 75, 76, 77, 78, 79, 80, 81, 82, 83, 84, 85, 86, 87, 88, 89, 90, 91, 92, 93, 94, 95, 96, 97, 98, 99, 100, 101, 102, 103, 104, 105, 106, 107, 108, 109, 110, 111, 112, 113, 121, 122, 123, 124, 125, 126, 127, 128, 129, 130, 131, 132, 133, 134, 135, 114, 115, 116, 117, 118, 119, 120, 136, 137, 138, 139, 140, 141, 142, 143, 144, 145, 146, 147, 148, 149, 150] rfl (by decide +kernel)
set_option maxRecDepth 100000 in
theorem gX6_rule_X6_endsBy : GoodIn wsX6_rule (wsV RX6 192 RX6 yX6_endsBy wsX6_endsBy) := goodIn_app (goodIn_of _ (by decide +kernel)) ggX6_rule_X6_endsBy
theorem dX6_rule_0 : decode cX6_rule 0 = .ok (.aload_n 0, 1) := by decide +kernel
theorem dX6_rule_1 : decode cX6_rule 1 = .ok (.iload_n 1, 1) := by decide +kernel
theorem dX6_rule_2 : decode cX6_rule 2 = .ok (.invokevirtual 107, 3) := by decide +kernel
theorem dX6_rule_5 : decode cX6_rule 5 = .ok (.astore_n 3, 1) := by decide +kernel
theorem dX6_rule_6 : decode cX6_rule 6 = .ok (.aload_n 3, 1) := by decide +kernel
theorem dX6_rule_7 : decode cX6_rule 7 = .ok (.ifnull 12, 3) := by decide +kernel
theorem dX6_rule_10 : decode cX6_rule 10 = .ok (.iload_n 2, 1) := by decide +kernel
theorem dX6_rule_11 : decode cX6_rule 11 = .ok (.ifCond .lt 8, 3) := by decide +kernel
theorem dX6_rule_14 : decode cX6_rule 14 = .ok (.iload_n 2, 1) := by decide +kernel
theorem dX6_rule_15 : decode cX6_rule 15 = .ok (.iconst 1, 1) := by decide +kernel
theorem dX6_rule_16 : decode cX6_rule 16 = .ok (.if_icmp .le 6, 3) := by decide +kernel
theorem dX6_rule_19 : decode cX6_rule 19 = .ok (.bipush (-2), 2) := by decide +kernel
theorem dX6_rule_21 : decode cX6_rule 21 = .ok (.ireturn, 1) := by decide +kernel
theorem dX6_rule_22 : decode cX6_rule 22 = .ok (.iload_n 2, 1) := by decide +kernel
theorem dX6_rule_23 : decode cX6_rule 23 = .ok (.ifCond .ne 8, 3) := by decide +kernel
theorem dX6_rule_26 : decode cX6_rule 26 = .ok (.bipush 10, 2) := by decide +kernel
theorem dX6_rule_28 : decode cX6_rule 28 = .ok (.goto 5, 3) := by decide +kernel
theorem dX6_rule_31 : decode cX6_rule 31 = .ok (.bipush 6, 2) := by decide +kernel
theorem dX6_rule_33 : decode cX6_rule 33 = .ok (.istore 4, 2) := by decide +kernel
theorem dX6_rule_35 : decode cX6_rule 35 = .ok (.iconst 0, 1) := by decide +kernel
theorem dX6_rule_36 : decode cX6_rule 36 = .ok (.istore 5, 2) := by decide +kernel
theorem dX6_rule_38 : decode cX6_rule 38 = .ok (.ldc2_w 199, 3) := by decide +kernel
theorem dX6_rule_41 : decode cX6_rule 41 = .ok (.lstore 6, 2) := by decide +kernel
theorem dX6_rule_43 : decode cX6_rule 43 = .ok (.iconst 0, 1) := by decide +kernel
theorem dX6_rule_44 : decode cX6_rule 44 = .ok (.istore 8, 2) := by decide +kernel
theorem dX6_rule_46 : decode cX6_rule 46 = .ok (.iload 8, 2) := by decide +kernel
theorem dX6_rule_48 : decode cX6_rule 48 = .ok (.iload 4, 2) := by decide +kernel
theorem dX6_rule_50 : decode cX6_rule 50 = .ok (.if_icmp .ge 70, 3) := by decide +kernel
theorem dX6_rule_53 : decode cX6_rule 53 = .ok (.iload_n 2, 1) := by decide +kernel
theorem dX6_rule_54 : decode cX6_rule 54 = .ok (.ifCond .ne 10, 3) := by decide +kernel
theorem dX6_rule_57 : decode cX6_rule 57 = .ok (.aload_n 3, 1) := by decide +kernel
theorem dX6_rule_58 : decode cX6_rule 58 = .ok (.getfield 119, 3) := by decide +kernel
theorem dX6_rule_61 : decode cX6_rule 61 = .ok (.goto 5, 3) := by decide +kernel
theorem dX6_rule_64 : decode cX6_rule 64 = .ok (.iload 8, 2) := by decide +kernel
theorem dX6_rule_66 : decode cX6_rule 66 = .ok (.istore 9, 2) := by decide +kernel
theorem dX6_rule_68 : decode cX6_rule 68 = .ok (.iload_n 2, 1) := by decide +kernel
theorem dX6_rule_69 : decode cX6_rule 69 = .ok (.ifCond .ne 8, 3) := by decide +kernel
theorem dX6_rule_72 : decode cX6_rule 72 = .ok (.iload 8, 2) := by decide +kernel
theorem dX6_rule_74 : decode cX6_rule 74 = .ok (.goto 7, 3) := by decide +kernel
theorem dX6_rule_77 : decode cX6_rule 77 = .ok (.aload_n 3, 1) := by decide +kernel
theorem dX6_rule_78 : decode cX6_rule 78 = .ok (.getfield 128, 3) := by decide +kernel
theorem dX6_rule_81 : decode cX6_rule 81 = .ok (.istore 10, 2) := by decide +kernel
theorem dX6_rule_83 : decode cX6_rule 83 = .ok (.aload_n 0, 1) := by decide +kernel
theorem dX6_rule_84 : decode cX6_rule 84 = .ok (.aload_n 3, 1) := by decide +kernel
theorem dX6_rule_85 : decode cX6_rule 85 = .ok (.iload 9, 2) := by decide +kernel
theorem dX6_rule_87 : decode cX6_rule 87 = .ok (.iload 10, 2) := by decide +kernel
theorem dX6_rule_89 : decode cX6_rule 89 = .ok (.aload_n 3, 1) := by decide +kernel
theorem dX6_rule_90 : decode cX6_rule 90 = .ok (.getfield 122, 3) := by decide +kernel
theorem dX6_rule_93 : decode cX6_rule 93 = .ok (.invokevirtual 192, 3) := by decide +kernel
theorem dX6_rule_96 : decode cX6_rule 96 = .ok (.lstore 11, 2) := by decide +kernel
theorem dX6_rule_98 : decode cX6_rule 98 = .ok (.lload 11, 2) := by decide +kernel
theorem dX6_rule_100 : decode cX6_rule 100 = .ok (.lload 6, 2) := by decide +kernel
theorem dX6_rule_102 : decode cX6_rule 102 = .ok (.lcmp, 1) := by decide +kernel
theorem dX6_rule_103 : decode cX6_rule 103 = .ok (.ifCond .le 11, 3) := by decide +kernel
theorem dX6_rule_106 : decode cX6_rule 106 = .ok (.lload 11, 2) := by decide +kernel
theorem dX6_rule_108 : decode cX6_rule 108 = .ok (.lstore 6, 2) := by decide +kernel
theorem dX6_rule_110 : decode cX6_rule 110 = .ok (.iload 8, 2) := by decide +kernel
theorem dX6_rule_112 : decode cX6_rule 112 = .ok (.istore 5, 2) := by decide +kernel
theorem dX6_rule_114 : decode cX6_rule 114 = .ok (.iinc 8 1, 3) := by decide +kernel
theorem dX6_rule_117 : decode cX6_rule 117 = .ok (.goto (-71), 3) := by decide +kernel
theorem dX6_rule_120 : decode cX6_rule 120 = .ok (.iload 5, 2) := by decide +kernel
theorem dX6_rule_122 : decode cX6_rule 122 = .ok (.ireturn, 1) := by decide +kernel
set_option maxRecDepth 100000 in
theorem ggX6_room_X6_laid : GoodIn wsX6_room wsX6_laid := goodIn_r _ [9, 10, 134, 135, 136, 137, 138, 139, 140, 141, 142, 143, 144, 145, 146, 147, 148] rfl (by decide +kernel)
set_option maxRecDepth 100000 in
theorem gX6_room_X6_laid : GoodIn wsX6_room (wsV RX6 201 RX6 yX6_laid wsX6_laid) := goodIn_app (goodIn_of _ (by decide +kernel)) ggX6_room_X6_laid
set_option maxRecDepth 100000 in
theorem ggX6_room_X6_areMarks : GoodIn wsX6_room wsX6_areMarks := goodIn_r _ [13] rfl (by decide +kernel)
set_option maxRecDepth 100000 in
theorem gX6_room_X6_areMarks : GoodIn wsX6_room (va_wsS RX6 139 yX6_areMarks wsX6_areMarks) := goodIn_app (goodIn_of _ (by decide +kernel)) ggX6_room_X6_areMarks
set_option maxRecDepth 100000 in
theorem ggX6_room_X6_follow : GoodIn wsX6_room wsX6_follow := goodIn_r _ [17, 4, 18, 19, 20, 8, 21, 22, 23, 24, 25, 26, 27, 28, 29, 30, 31, 32, 33, 34, 35, 36, 37, 38, 39, 40, 41, 42, 43, 44, 45, 46, 47, 48, 49, 50, 51, 52, 53, 54, 55, 56, 57, 58, 59, 60, 61, 62, 63, 64, 65, 66, 67, 68, 69, 70, 71, 72, 73, 74, 75, 76, 77, 78, 79, 80, 81, 82, 83, 84, 85, 86, 87, 88, 89, 90, 91, 92, 93, 94, 95, 96, 97, 98, 99, 100, 101, 102, 103, 104, 105, 106, 107, 108, 109, 110, 111, 112, 152, 153, 154, 155, 156, 157, 158, 134, 135, 136, 137, 138, 139, 140, 141, 142, 143, 144, 145, 146, 147, 148, 159, 160, 161, 162, 163, 164, 165, 166, 167, 168, 169, 170, 171, 172, 173] rfl (by decide +kernel)
set_option maxRecDepth 100000 in
theorem gX6_room_X6_follow : GoodIn wsX6_room (wsV RX6 148 RX6 yX6_follow wsX6_follow) := goodIn_app (goodIn_of _ (by decide +kernel)) ggX6_room_X6_follow
set_option maxRecDepth 100000 in
theorem ggX6_room_X1_share : GoodIn wsX6_room wsX1_share := goodIn_r _ [115, 116, 117, 118, 119, 38, 120, 87, 88, 89, 90, 41, 91, 61, 62, 63, 92, 93, 94, 95, 65, 66, 121, 122, 123, 124, 125, 126, 127, 128, 42, 165, 166, 167, 168, 169, 170, 171] rfl (by decide +kernel)
set_option maxRecDepth 100000 in
theorem gX6_room_X1_share_n212 : GoodIn wsX6_room (wsX1_share) := ggX6_room_X1_share
set_option maxRecDepth 100000 in
theorem ggX6_room_X6_likeliest : GoodIn wsX6_room wsX6_likeliest := goodIn_r _ [132, 133, 1, 3, 134, 135, 136, 137, 138, 139, 140, 141, 142, 143, 144, 145, 146, 147, 148] rfl (by decide +kernel)
set_option maxRecDepth 100000 in
theorem gX6_room_X6_likeliest : GoodIn wsX6_room (wsV RX6 215 RX6 yX6_likeliest wsX6_likeliest) := goodIn_app (goodIn_of _ (by decide +kernel)) ggX6_room_X6_likeliest
theorem dX6_room_0 : decode cX6_room 0 = .ok (.aload_n 0, 1) := by decide +kernel
theorem dX6_room_1 : decode cX6_room 1 = .ok (.iload_n 3, 1) := by decide +kernel
theorem dX6_room_2 : decode cX6_room 2 = .ok (.invokevirtual 201, 3) := by decide +kernel
theorem dX6_room_5 : decode cX6_room 5 = .ok (.astore 4, 2) := by decide +kernel
theorem dX6_room_7 : decode cX6_room 7 = .ok (.iload_n 1, 1) := by decide +kernel
theorem dX6_room_8 : decode cX6_room 8 = .ok (.ifCond .lt 28, 3) := by decide +kernel
theorem dX6_room_11 : decode cX6_room 11 = .ok (.iload_n 1, 1) := by decide +kernel
theorem dX6_room_12 : decode cX6_room 12 = .ok (.iconst 1, 1) := by decide +kernel
theorem dX6_room_13 : decode cX6_room 13 = .ok (.aload_n 0, 1) := by decide +kernel
theorem dX6_room_14 : decode cX6_room 14 = .ok (.getfield 15, 3) := by decide +kernel
theorem dX6_room_17 : decode cX6_room 17 = .ok (.ishl, 1) := by decide +kernel
theorem dX6_room_18 : decode cX6_room 18 = .ok (.if_icmp .ge 18, 3) := by decide +kernel
theorem dX6_room_21 : decode cX6_room 21 = .ok (.iload_n 2, 1) := by decide +kernel
theorem dX6_room_22 : decode cX6_room 22 = .ok (.ifCond .lt 14, 3) := by decide +kernel
theorem dX6_room_25 : decode cX6_room 25 = .ok (.iload_n 2, 1) := by decide +kernel
theorem dX6_room_26 : decode cX6_room 26 = .ok (.bipush 8, 2) := by decide +kernel
theorem dX6_room_28 : decode cX6_room 28 = .ok (.if_icmp .gt 8, 3) := by decide +kernel
theorem dX6_room_31 : decode cX6_room 31 = .ok (.aload 4, 2) := by decide +kernel
theorem dX6_room_33 : decode cX6_room 33 = .ok (.ifnonnull 6, 3) := by decide +kernel
theorem dX6_room_36 : decode cX6_room 36 = .ok (.bipush (-2), 2) := by decide +kernel
theorem dX6_room_38 : decode cX6_room 38 = .ok (.ireturn, 1) := by decide +kernel
theorem dX6_room_39 : decode cX6_room 39 = .ok (.aload 4, 2) := by decide +kernel
theorem dX6_room_41 : decode cX6_room 41 = .ok (.getfield 205, 3) := by decide +kernel
theorem dX6_room_44 : decode cX6_room 44 = .ok (.iconst (-1), 1) := by decide +kernel
theorem dX6_room_45 : decode cX6_room 45 = .ok (.if_icmp .ne 6, 3) := by decide +kernel
theorem dX6_room_48 : decode cX6_room 48 = .ok (.bipush (-11), 2) := by decide +kernel
theorem dX6_room_50 : decode cX6_room 50 = .ok (.ireturn, 1) := by decide +kernel
theorem dX6_room_51 : decode cX6_room 51 = .ok (.aload 4, 2) := by decide +kernel
theorem dX6_room_53 : decode cX6_room 53 = .ok (.getfield 206, 3) := by decide +kernel
theorem dX6_room_56 : decode cX6_room 56 = .ok (.aload_n 0, 1) := by decide +kernel
theorem dX6_room_57 : decode cX6_room 57 = .ok (.getfield 15, 3) := by decide +kernel
theorem dX6_room_60 : decode cX6_room 60 = .ok (.if_icmp .eq 6, 3) := by decide +kernel
theorem dX6_room_63 : decode cX6_room 63 = .ok (.bipush (-2), 2) := by decide +kernel
theorem dX6_room_65 : decode cX6_room 65 = .ok (.ireturn, 1) := by decide +kernel
theorem dX6_room_66 : decode cX6_room 66 = .ok (.iconst 0, 1) := by decide +kernel
theorem dX6_room_67 : decode cX6_room 67 = .ok (.istore 5, 2) := by decide +kernel
theorem dX6_room_69 : decode cX6_room 69 = .ok (.iload 5, 2) := by decide +kernel
theorem dX6_room_71 : decode cX6_room 71 = .ok (.aload_n 0, 1) := by decide +kernel
theorem dX6_room_72 : decode cX6_room 72 = .ok (.getfield 15, 3) := by decide +kernel
theorem dX6_room_75 : decode cX6_room 75 = .ok (.if_icmp .ge 26, 3) := by decide +kernel
theorem dX6_room_78 : decode cX6_room 78 = .ok (.aload 4, 2) := by decide +kernel
theorem dX6_room_80 : decode cX6_room 80 = .ok (.getfield 209, 3) := by decide +kernel
theorem dX6_room_83 : decode cX6_room 83 = .ok (.iload 5, 2) := by decide +kernel
theorem dX6_room_85 : decode cX6_room 85 = .ok (.iaload, 1) := by decide +kernel
theorem dX6_room_86 : decode cX6_room 86 = .ok (.invokestatic 139, 3) := by decide +kernel
theorem dX6_room_89 : decode cX6_room 89 = .ok (.ifCond .ne 6, 3) := by decide +kernel
theorem dX6_room_92 : decode cX6_room 92 = .ok (.bipush (-2), 2) := by decide +kernel
theorem dX6_room_94 : decode cX6_room 94 = .ok (.ireturn, 1) := by decide +kernel
theorem dX6_room_95 : decode cX6_room 95 = .ok (.iinc 5 1, 3) := by decide +kernel
theorem dX6_room_98 : decode cX6_room 98 = .ok (.goto (-29), 3) := by decide +kernel
theorem dX6_room_101 : decode cX6_room 101 = .ok (.iconst 0, 1) := by decide +kernel
theorem dX6_room_102 : decode cX6_room 102 = .ok (.istore 5, 2) := by decide +kernel
theorem dX6_room_104 : decode cX6_room 104 = .ok (.iload 5, 2) := by decide +kernel
theorem dX6_room_106 : decode cX6_room 106 = .ok (.aload_n 0, 1) := by decide +kernel
theorem dX6_room_107 : decode cX6_room 107 = .ok (.getfield 15, 3) := by decide +kernel
theorem dX6_room_110 : decode cX6_room 110 = .ok (.if_icmp .ge 53, 3) := by decide +kernel
theorem dX6_room_113 : decode cX6_room 113 = .ok (.aload_n 0, 1) := by decide +kernel
theorem dX6_room_114 : decode cX6_room 114 = .ok (.aload_n 0, 1) := by decide +kernel
theorem dX6_room_115 : decode cX6_room 115 = .ok (.getfield 11, 3) := by decide +kernel
theorem dX6_room_118 : decode cX6_room 118 = .ok (.iload 5, 2) := by decide +kernel
theorem dX6_room_120 : decode cX6_room 120 = .ok (.aaload, 1) := by decide +kernel
theorem dX6_room_121 : decode cX6_room 121 = .ok (.aload 4, 2) := by decide +kernel
theorem dX6_room_123 : decode cX6_room 123 = .ok (.getfield 209, 3) := by decide +kernel
theorem dX6_room_126 : decode cX6_room 126 = .ok (.iload 5, 2) := by decide +kernel
theorem dX6_room_128 : decode cX6_room 128 = .ok (.iaload, 1) := by decide +kernel
theorem dX6_room_129 : decode cX6_room 129 = .ok (.invokevirtual 148, 3) := by decide +kernel
theorem dX6_room_132 : decode cX6_room 132 = .ok (.aload_n 0, 1) := by decide +kernel
theorem dX6_room_133 : decode cX6_room 133 = .ok (.getfield 69, 3) := by decide +kernel
theorem dX6_room_136 : decode cX6_room 136 = .ok (.iload 5, 2) := by decide +kernel
theorem dX6_room_138 : decode cX6_room 138 = .ok (.aload_n 0, 1) := by decide +kernel
theorem dX6_room_139 : decode cX6_room 139 = .ok (.getfield 65, 3) := by decide +kernel
theorem dX6_room_142 : decode cX6_room 142 = .ok (.aload 4, 2) := by decide +kernel
theorem dX6_room_144 : decode cX6_room 144 = .ok (.getfield 209, 3) := by decide +kernel
theorem dX6_room_147 : decode cX6_room 147 = .ok (.iload 5, 2) := by decide +kernel
theorem dX6_room_149 : decode cX6_room 149 = .ok (.iaload, 1) := by decide +kernel
theorem dX6_room_150 : decode cX6_room 150 = .ok (.bipush 100, 2) := by decide +kernel
theorem dX6_room_152 : decode cX6_room 152 = .ok (.idiv, 1) := by decide +kernel
theorem dX6_room_153 : decode cX6_room 153 = .ok (.invokevirtual 212, 3) := by decide +kernel
theorem dX6_room_156 : decode cX6_room 156 = .ok (.lastore, 1) := by decide +kernel
theorem dX6_room_157 : decode cX6_room 157 = .ok (.iinc 5 1, 3) := by decide +kernel
theorem dX6_room_160 : decode cX6_room 160 = .ok (.goto (-56), 3) := by decide +kernel
theorem dX6_room_163 : decode cX6_room 163 = .ok (.iconst 0, 1) := by decide +kernel
theorem dX6_room_164 : decode cX6_room 164 = .ok (.istore 5, 2) := by decide +kernel
theorem dX6_room_166 : decode cX6_room 166 = .ok (.iconst 0, 1) := by decide +kernel
theorem dX6_room_167 : decode cX6_room 167 = .ok (.istore 6, 2) := by decide +kernel
theorem dX6_room_169 : decode cX6_room 169 = .ok (.iload 6, 2) := by decide +kernel
theorem dX6_room_171 : decode cX6_room 171 = .ok (.iload_n 2, 1) := by decide +kernel
theorem dX6_room_172 : decode cX6_room 172 = .ok (.if_icmp .ge 32, 3) := by decide +kernel
theorem dX6_room_175 : decode cX6_room 175 = .ok (.iload 5, 2) := by decide +kernel
theorem dX6_room_177 : decode cX6_room 177 = .ok (.iload_n 1, 1) := by decide +kernel
theorem dX6_room_178 : decode cX6_room 178 = .ok (.if_icmp .eq 26, 3) := by decide +kernel
theorem dX6_room_181 : decode cX6_room 181 = .ok (.iload 5, 2) := by decide +kernel
theorem dX6_room_183 : decode cX6_room 183 = .ok (.iconst 1, 1) := by decide +kernel
theorem dX6_room_184 : decode cX6_room 184 = .ok (.aload_n 0, 1) := by decide +kernel
theorem dX6_room_185 : decode cX6_room 185 = .ok (.iload_n 1, 1) := by decide +kernel
theorem dX6_room_186 : decode cX6_room 186 = .ok (.iload 5, 2) := by decide +kernel
theorem dX6_room_188 : decode cX6_room 188 = .ok (.iconst (-1), 1) := by decide +kernel
theorem dX6_room_189 : decode cX6_room 189 = .ok (.ixor, 1) := by decide +kernel
theorem dX6_room_190 : decode cX6_room 190 = .ok (.iand, 1) := by decide +kernel
theorem dX6_room_191 : decode cX6_room 191 = .ok (.invokevirtual 215, 3) := by decide +kernel
theorem dX6_room_194 : decode cX6_room 194 = .ok (.ishl, 1) := by decide +kernel
theorem dX6_room_195 : decode cX6_room 195 = .ok (.ior, 1) := by decide +kernel
theorem dX6_room_196 : decode cX6_room 196 = .ok (.istore 5, 2) := by decide +kernel
theorem dX6_room_198 : decode cX6_room 198 = .ok (.iinc 6 1, 3) := by decide +kernel
theorem dX6_room_201 : decode cX6_room 201 = .ok (.goto (-32), 3) := by decide +kernel
theorem dX6_room_204 : decode cX6_room 204 = .ok (.iload 5, 2) := by decide +kernel
theorem dX6_room_206 : decode cX6_room 206 = .ok (.ireturn, 1) := by decide +kernel
set_option maxRecDepth 100000 in
theorem ggX6_summer_X6_known : GoodIn wsX6_summer wsX6_known := goodIn_r _ [7, 8, 9, 36, 37, 38, 39, 40, 41, 42, 43, 44, 45, 46, 47, 48, 49, 50] rfl (by decide +kernel)
set_option maxRecDepth 100000 in
theorem gX6_summer_X6_known : GoodIn wsX6_summer (wsV RX6 107 RX6 yX6_known wsX6_known) := goodIn_app (goodIn_of _ (by decide +kernel)) ggX6_summer_X6_known
set_option maxRecDepth 100000 in
theorem ggX6_summer_X1_weightsAt : GoodIn wsX6_summer wsX1_weightsAt := goodIn_r _ [13, 14, 15, 16, 11, 17, 18, 19, 20, 21, 22, 23, 24, 58, 59, 60, 61, 62, 63, 64] rfl (by decide +kernel)
set_option maxRecDepth 100000 in
theorem gX6_summer_X1_weightsAt_n152 : GoodIn wsX6_summer (wsX1_weightsAt) := ggX6_summer_X1_weightsAt
set_option maxRecDepth 100000 in
theorem ggX6_summer_X2_takes : GoodIn wsX6_summer wsX2_takes := goodIn_r _ [28, 29, 30, 31, 6, 32, 51, 52, 53, 54, 55, 56, 57] rfl (by decide +kernel)
set_option maxRecDepth 100000 in
theorem gX6_summer_X2_takes_n220 : GoodIn wsX6_summer (wsX2_takes) := ggX6_summer_X2_takes
set_option maxRecDepth 100000 in
theorem ggX6_summer_X2_together : GoodIn wsX6_summer wsX2_together := goodIn_r _ [35, 30, 51, 52, 53, 54, 55, 56, 57] rfl (by decide +kernel)
set_option maxRecDepth 100000 in
theorem gX6_summer_X2_together_n112 : GoodIn wsX6_summer (wsX2_together) := ggX6_summer_X2_together
theorem dX6_summer_0 : decode cX6_summer 0 = .ok (.aload_n 0, 1) := by decide +kernel
theorem dX6_summer_1 : decode cX6_summer 1 = .ok (.iload_n 1, 1) := by decide +kernel
theorem dX6_summer_2 : decode cX6_summer 2 = .ok (.invokevirtual 107, 3) := by decide +kernel
theorem dX6_summer_5 : decode cX6_summer 5 = .ok (.astore_n 3, 1) := by decide +kernel
theorem dX6_summer_6 : decode cX6_summer 6 = .ok (.aload_n 3, 1) := by decide +kernel
theorem dX6_summer_7 : decode cX6_summer 7 = .ok (.ifnull 13, 3) := by decide +kernel
theorem dX6_summer_10 : decode cX6_summer 10 = .ok (.iload_n 2, 1) := by decide +kernel
theorem dX6_summer_11 : decode cX6_summer 11 = .ok (.ifCond .lt 9, 3) := by decide +kernel
theorem dX6_summer_14 : decode cX6_summer 14 = .ok (.iload_n 2, 1) := by decide +kernel
theorem dX6_summer_15 : decode cX6_summer 15 = .ok (.bipush 9, 2) := by decide +kernel
theorem dX6_summer_17 : decode cX6_summer 17 = .ok (.if_icmp .le 6, 3) := by decide +kernel
theorem dX6_summer_20 : decode cX6_summer 20 = .ok (.bipush (-2), 2) := by decide +kernel
theorem dX6_summer_22 : decode cX6_summer 22 = .ok (.ireturn, 1) := by decide +kernel
theorem dX6_summer_23 : decode cX6_summer 23 = .ok (.aload_n 0, 1) := by decide +kernel
theorem dX6_summer_24 : decode cX6_summer 24 = .ok (.getfield 65, 3) := by decide +kernel
theorem dX6_summer_27 : decode cX6_summer 27 = .ok (.iconst 0, 1) := by decide +kernel
theorem dX6_summer_28 : decode cX6_summer 28 = .ok (.invokevirtual 152, 3) := by decide +kernel
theorem dX6_summer_31 : decode cX6_summer 31 = .ok (.astore 4, 2) := by decide +kernel
theorem dX6_summer_33 : decode cX6_summer 33 = .ok (.iconst 0, 1) := by decide +kernel
theorem dX6_summer_34 : decode cX6_summer 34 = .ok (.istore 5, 2) := by decide +kernel
theorem dX6_summer_36 : decode cX6_summer 36 = .ok (.iload 5, 2) := by decide +kernel
theorem dX6_summer_38 : decode cX6_summer 38 = .ok (.iconst 5, 1) := by decide +kernel
theorem dX6_summer_39 : decode cX6_summer 39 = .ok (.if_icmp .ge 73, 3) := by decide +kernel
theorem dX6_summer_42 : decode cX6_summer 42 = .ok (.iload 5, 2) := by decide +kernel
theorem dX6_summer_44 : decode cX6_summer 44 = .ok (.ifCond .ne 9, 3) := by decide +kernel
theorem dX6_summer_47 : decode cX6_summer 47 = .ok (.ldc2_w 218, 3) := by decide +kernel
theorem dX6_summer_50 : decode cX6_summer 50 = .ok (.goto 8, 3) := by decide +kernel
theorem dX6_summer_53 : decode cX6_summer 53 = .ok (.bipush 10, 2) := by decide +kernel
theorem dX6_summer_55 : decode cX6_summer 55 = .ok (.iload_n 2, 1) := by decide +kernel
theorem dX6_summer_56 : decode cX6_summer 56 = .ok (.isub, 1) := by decide +kernel
theorem dX6_summer_57 : decode cX6_summer 57 = .ok (.i2l, 1) := by decide +kernel
theorem dX6_summer_58 : decode cX6_summer 58 = .ok (.lstore 6, 2) := by decide +kernel
theorem dX6_summer_60 : decode cX6_summer 60 = .ok (.iload 5, 2) := by decide +kernel
theorem dX6_summer_62 : decode cX6_summer 62 = .ok (.iconst 1, 1) := by decide +kernel
theorem dX6_summer_63 : decode cX6_summer 63 = .ok (.iadd, 1) := by decide +kernel
theorem dX6_summer_64 : decode cX6_summer 64 = .ok (.iconst 5, 1) := by decide +kernel
theorem dX6_summer_65 : decode cX6_summer 65 = .ok (.if_icmp .ge 16, 3) := by decide +kernel
theorem dX6_summer_68 : decode cX6_summer 68 = .ok (.aload_n 3, 1) := by decide +kernel
theorem dX6_summer_69 : decode cX6_summer 69 = .ok (.getfield 115, 3) := by decide +kernel
theorem dX6_summer_72 : decode cX6_summer 72 = .ok (.iload 5, 2) := by decide +kernel
theorem dX6_summer_74 : decode cX6_summer 74 = .ok (.iconst 1, 1) := by decide +kernel
theorem dX6_summer_75 : decode cX6_summer 75 = .ok (.iadd, 1) := by decide +kernel
theorem dX6_summer_76 : decode cX6_summer 76 = .ok (.iaload, 1) := by decide +kernel
theorem dX6_summer_77 : decode cX6_summer 77 = .ok (.i2l, 1) := by decide +kernel
theorem dX6_summer_78 : decode cX6_summer 78 = .ok (.goto 4, 3) := by decide +kernel
theorem dX6_summer_81 : decode cX6_summer 81 = .ok (.lconst 0, 1) := by decide +kernel
theorem dX6_summer_82 : decode cX6_summer 82 = .ok (.lstore 8, 2) := by decide +kernel
theorem dX6_summer_84 : decode cX6_summer 84 = .ok (.aload 4, 2) := by decide +kernel
theorem dX6_summer_86 : decode cX6_summer 86 = .ok (.iload 5, 2) := by decide +kernel
theorem dX6_summer_88 : decode cX6_summer 88 = .ok (.aload_n 3, 1) := by decide +kernel
theorem dX6_summer_89 : decode cX6_summer 89 = .ok (.getfield 115, 3) := by decide +kernel
theorem dX6_summer_92 : decode cX6_summer 92 = .ok (.iload 5, 2) := by decide +kernel
theorem dX6_summer_94 : decode cX6_summer 94 = .ok (.iaload, 1) := by decide +kernel
theorem dX6_summer_95 : decode cX6_summer 95 = .ok (.i2l, 1) := by decide +kernel
theorem dX6_summer_96 : decode cX6_summer 96 = .ok (.lload 6, 2) := by decide +kernel
theorem dX6_summer_98 : decode cX6_summer 98 = .ok (.lmul, 1) := by decide +kernel
theorem dX6_summer_99 : decode cX6_summer 99 = .ok (.lload 8, 2) := by decide +kernel
theorem dX6_summer_101 : decode cX6_summer 101 = .ok (.iload_n 2, 1) := by decide +kernel
theorem dX6_summer_102 : decode cX6_summer 102 = .ok (.i2l, 1) := by decide +kernel
theorem dX6_summer_103 : decode cX6_summer 103 = .ok (.lmul, 1) := by decide +kernel
theorem dX6_summer_104 : decode cX6_summer 104 = .ok (.ladd, 1) := by decide +kernel
theorem dX6_summer_105 : decode cX6_summer 105 = .ok (.lastore, 1) := by decide +kernel
theorem dX6_summer_106 : decode cX6_summer 106 = .ok (.iinc 5 1, 3) := by decide +kernel
theorem dX6_summer_109 : decode cX6_summer 109 = .ok (.goto (-73), 3) := by decide +kernel
theorem dX6_summer_112 : decode cX6_summer 112 = .ok (.aload_n 3, 1) := by decide +kernel
theorem dX6_summer_113 : decode cX6_summer 113 = .ok (.aload 4, 2) := by decide +kernel
theorem dX6_summer_115 : decode cX6_summer 115 = .ok (.invokevirtual 220, 3) := by decide +kernel
theorem dX6_summer_118 : decode cX6_summer 118 = .ok (.ifCond .eq 10, 3) := by decide +kernel
theorem dX6_summer_121 : decode cX6_summer 121 = .ok (.aload_n 3, 1) := by decide +kernel
theorem dX6_summer_122 : decode cX6_summer 122 = .ok (.invokevirtual 112, 3) := by decide +kernel
theorem dX6_summer_125 : decode cX6_summer 125 = .ok (.goto 5, 3) := by decide +kernel
theorem dX6_summer_128 : decode cX6_summer 128 = .ok (.bipush (-3), 2) := by decide +kernel
theorem dX6_summer_130 : decode cX6_summer 130 = .ok (.ireturn, 1) := by decide +kernel
set_option maxRecDepth 100000 in
theorem ggX6_test_X6_known : GoodIn wsX6_test wsX6_known := goodIn_r _ [6, 7, 8, 125, 126, 127, 128, 129, 130, 131, 132, 133, 134, 135, 136, 137, 138, 139] rfl (by decide +kernel)
set_option maxRecDepth 100000 in
theorem gX6_test_X6_known : GoodIn wsX6_test (wsV RX6 107 RX6 yX6_known wsX6_known) := goodIn_app (goodIn_of _ (by decide +kernel)) ggX6_test_X6_known
set_option maxRecDepth 100000 in
theorem ggX6_test_X6_areMarks : GoodIn wsX6_test wsX6_areMarks := goodIn_r _ [11] rfl (by decide +kernel)
set_option maxRecDepth 100000 in
theorem gX6_test_X6_areMarks : GoodIn wsX6_test (va_wsS RX6 139 yX6_areMarks wsX6_areMarks) := goodIn_app (goodIn_of _ (by decide +kernel)) ggX6_test_X6_areMarks
set_option maxRecDepth 100000 in
theorem ggX6_test_X6_follow : GoodIn wsX6_test wsX6_follow := goodIn_r _ [15, 1, 16, 17, 18, 5, 19, 20, 21, 22, 23, 24, 25, 26, 27, 28, 29, 30, 31, 32, 33, 34, 35, 36, 37, 38, 39, 40, 41, 42, 43, 44, 45, 46, 47, 48, 49, 50, 51, 52, 53, 54, 55, 56, 57, 58, 59, 60, 61, 62, 63, 64, 65, 66, 67, 68, 69, 70, 71, 72, 73, 74, 75, 76, 77, 78, 79, 80, 81, 82, 83, 84, 85, 86, 87, 88, 89, 90, 91, 92, 93, 94, 95, 96, 97, 98, 99, 100, 101, 102, 103, 104, 105, 106, 107, 108, 109, 110, 140, 141, 142, 143, 144, 145, 146, 125, 126, 127, 128, 129, 130, 131, 132, 133, 134, 135, 136, 137, 138, 139, 147, 148, 149, 150, 151, 152, 153, 154, 155, 156, 157, 158, 159, 160, 161] rfl (by decide +kernel)
set_option maxRecDepth 100000 in
theorem gX6_test_X6_follow : GoodIn wsX6_test (wsV RX6 148 RX6 yX6_follow wsX6_follow) := goodIn_app (goodIn_of _ (by decide +kernel)) ggX6_test_X6_follow
set_option maxRecDepth 100000 in
theorem ggX6_test_X1_weightsAt : GoodIn wsX6_test wsX1_weightsAt := goodIn_r _ [113, 39, 90, 91, 36, 92, 93, 63, 60, 64, 89, 59, 61, 153, 154, 155, 156, 157, 158, 159] rfl (by decide +kernel)
set_option maxRecDepth 100000 in
theorem gX6_test_X1_weightsAt_n152 : GoodIn wsX6_test (wsX1_weightsAt) := ggX6_test_X1_weightsAt
set_option maxRecDepth 100000 in
theorem ggX6_test_X2_takes : GoodIn wsX6_test wsX2_takes := goodIn_r _ [117, 118, 119, 120, 5, 121, 140, 141, 142, 143, 144, 145, 146] rfl (by decide +kernel)
set_option maxRecDepth 100000 in
theorem gX6_test_X2_takes_n220 : GoodIn wsX6_test (wsX2_takes) := ggX6_test_X2_takes
set_option maxRecDepth 100000 in
theorem ggX6_test_X1_classThen : GoodIn wsX6_test wsX1_classThen := goodIn_r _ [124, 40, 90, 91, 36, 92, 93, 63, 60, 64, 89, 59, 61, 153, 154, 155, 156, 157, 158, 159] rfl (by decide +kernel)
set_option maxRecDepth 100000 in
theorem gX6_test_X1_classThen_n163 : GoodIn wsX6_test (wsX1_classThen) := ggX6_test_X1_classThen
theorem dX6_test_0 : decode cX6_test 0 = .ok (.aload_n 0, 1) := by decide +kernel
theorem dX6_test_1 : decode cX6_test 1 = .ok (.iload_n 1, 1) := by decide +kernel
theorem dX6_test_2 : decode cX6_test 2 = .ok (.invokevirtual 107, 3) := by decide +kernel
theorem dX6_test_5 : decode cX6_test 5 = .ok (.astore_n 3, 1) := by decide +kernel
theorem dX6_test_6 : decode cX6_test 6 = .ok (.aload_n 3, 1) := by decide +kernel
theorem dX6_test_7 : decode cX6_test 7 = .ok (.ifnull 10, 3) := by decide +kernel
theorem dX6_test_10 : decode cX6_test 10 = .ok (.iload_n 2, 1) := by decide +kernel
theorem dX6_test_11 : decode cX6_test 11 = .ok (.invokestatic 139, 3) := by decide +kernel
theorem dX6_test_14 : decode cX6_test 14 = .ok (.ifCond .ne 6, 3) := by decide +kernel
theorem dX6_test_17 : decode cX6_test 17 = .ok (.bipush (-2), 2) := by decide +kernel
theorem dX6_test_19 : decode cX6_test 19 = .ok (.ireturn, 1) := by decide +kernel
theorem dX6_test_20 : decode cX6_test 20 = .ok (.aload_n 0, 1) := by decide +kernel
theorem dX6_test_21 : decode cX6_test 21 = .ok (.aload_n 3, 1) := by decide +kernel
theorem dX6_test_22 : decode cX6_test 22 = .ok (.iload_n 2, 1) := by decide +kernel
theorem dX6_test_23 : decode cX6_test 23 = .ok (.invokevirtual 148, 3) := by decide +kernel
theorem dX6_test_26 : decode cX6_test 26 = .ok (.iload_n 2, 1) := by decide +kernel
theorem dX6_test_27 : decode cX6_test 27 = .ok (.bipush 100, 2) := by decide +kernel
theorem dX6_test_29 : decode cX6_test 29 = .ok (.idiv, 1) := by decide +kernel
theorem dX6_test_30 : decode cX6_test 30 = .ok (.istore 4, 2) := by decide +kernel
theorem dX6_test_32 : decode cX6_test 32 = .ok (.aload_n 3, 1) := by decide +kernel
theorem dX6_test_33 : decode cX6_test 33 = .ok (.aload_n 0, 1) := by decide +kernel
theorem dX6_test_34 : decode cX6_test 34 = .ok (.getfield 65, 3) := by decide +kernel
theorem dX6_test_37 : decode cX6_test 37 = .ok (.iload 4, 2) := by decide +kernel
theorem dX6_test_39 : decode cX6_test 39 = .ok (.invokevirtual 152, 3) := by decide +kernel
theorem dX6_test_42 : decode cX6_test 42 = .ok (.invokevirtual 220, 3) := by decide +kernel
theorem dX6_test_45 : decode cX6_test 45 = .ok (.ifCond .ne 6, 3) := by decide +kernel
theorem dX6_test_48 : decode cX6_test 48 = .ok (.bipush (-3), 2) := by decide +kernel
theorem dX6_test_50 : decode cX6_test 50 = .ok (.ireturn, 1) := by decide +kernel
theorem dX6_test_51 : decode cX6_test 51 = .ok (.aload_n 3, 1) := by decide +kernel
theorem dX6_test_52 : decode cX6_test 52 = .ok (.aload_n 0, 1) := by decide +kernel
theorem dX6_test_53 : decode cX6_test 53 = .ok (.getfield 65, 3) := by decide +kernel
theorem dX6_test_56 : decode cX6_test 56 = .ok (.iload 4, 2) := by decide +kernel
theorem dX6_test_58 : decode cX6_test 58 = .ok (.invokevirtual 163, 3) := by decide +kernel
theorem dX6_test_61 : decode cX6_test 61 = .ok (.putfield 122, 3) := by decide +kernel
theorem dX6_test_64 : decode cX6_test 64 = .ok (.aload_n 3, 1) := by decide +kernel
theorem dX6_test_65 : decode cX6_test 65 = .ok (.getfield 122, 3) := by decide +kernel
theorem dX6_test_68 : decode cX6_test 68 = .ok (.ireturn, 1) := by decide +kernel
set_option maxRecDepth 100000 in
theorem ggX6_cut_X6_laid : GoodIn wsX6_cut wsX6_laid := goodIn_r _ [5, 6, 29, 30, 31, 32, 33, 34, 35, 36, 37, 38, 39, 40, 41, 42, 43] rfl (by decide +kernel)
set_option maxRecDepth 100000 in
theorem gX6_cut_X6_laid : GoodIn wsX6_cut (wsV RX6 201 RX6 yX6_laid wsX6_laid) := goodIn_app (goodIn_of _ (by decide +kernel)) ggX6_cut_X6_laid
set_option maxRecDepth 100000 in
theorem ggX6_cut_X4_within : GoodIn wsX6_cut wsX4_within := goodIn_r _ [10, 11, 12, 26, 27, 28] rfl (by decide +kernel)
set_option maxRecDepth 100000 in
theorem gX6_cut_X4_within_n224 : GoodIn wsX6_cut (wsX4_within) := ggX6_cut_X4_within
set_option maxRecDepth 100000 in
theorem ggX6_cut_X6_leastEnds : GoodIn wsX6_cut wsX6_leastEnds := goodIn_r _ [15, 16, 17, 18, 19, 20, 21, 22, 23, 8, 24, 25, 11, 12, 26, 27, 28] rfl (by decide +kernel)
set_option maxRecDepth 100000 in
theorem gX6_cut_X6_leastEnds : GoodIn wsX6_cut (va_wsS RX6 227 yX6_leastEnds wsX6_leastEnds) := goodIn_app (goodIn_of _ (by decide +kernel)) ggX6_cut_X6_leastEnds
set_option maxRecDepth 100000 in
theorem ggX6_cut_X4_squares : GoodIn wsX6_cut wsX4_squares := goodIn_r _ [25, 11, 12, 26, 27, 28] rfl (by decide +kernel)
set_option maxRecDepth 100000 in
theorem gX6_cut_X4_squares_n231 : GoodIn wsX6_cut (wsX4_squares) := ggX6_cut_X4_squares
theorem dX6_cut_0 : decode cX6_cut 0 = .ok (.aload_n 0, 1) := by decide +kernel
theorem dX6_cut_1 : decode cX6_cut 1 = .ok (.iload_n 2, 1) := by decide +kernel
theorem dX6_cut_2 : decode cX6_cut 2 = .ok (.invokevirtual 201, 3) := by decide +kernel
theorem dX6_cut_5 : decode cX6_cut 5 = .ok (.astore 4, 2) := by decide +kernel
theorem dX6_cut_7 : decode cX6_cut 7 = .ok (.iload_n 1, 1) := by decide +kernel
theorem dX6_cut_8 : decode cX6_cut 8 = .ok (.iconst 1, 1) := by decide +kernel
theorem dX6_cut_9 : decode cX6_cut 9 = .ok (.if_icmp .lt 23, 3) := by decide +kernel
theorem dX6_cut_12 : decode cX6_cut 12 = .ok (.iload_n 1, 1) := by decide +kernel
theorem dX6_cut_13 : decode cX6_cut 13 = .ok (.bipush 10, 2) := by decide +kernel
theorem dX6_cut_15 : decode cX6_cut 15 = .ok (.if_icmp .gt 17, 3) := by decide +kernel
theorem dX6_cut_18 : decode cX6_cut 18 = .ok (.aload 4, 2) := by decide +kernel
theorem dX6_cut_20 : decode cX6_cut 20 = .ok (.ifnull 12, 3) := by decide +kernel
theorem dX6_cut_23 : decode cX6_cut 23 = .ok (.iload_n 3, 1) := by decide +kernel
theorem dX6_cut_24 : decode cX6_cut 24 = .ok (.ifCond .lt 8, 3) := by decide +kernel
theorem dX6_cut_27 : decode cX6_cut 27 = .ok (.iload_n 3, 1) := by decide +kernel
theorem dX6_cut_28 : decode cX6_cut 28 = .ok (.iconst 1, 1) := by decide +kernel
theorem dX6_cut_29 : decode cX6_cut 29 = .ok (.if_icmp .le 6, 3) := by decide +kernel
theorem dX6_cut_32 : decode cX6_cut 32 = .ok (.bipush (-2), 2) := by decide +kernel
theorem dX6_cut_34 : decode cX6_cut 34 = .ok (.ireturn, 1) := by decide +kernel
theorem dX6_cut_35 : decode cX6_cut 35 = .ok (.aload 4, 2) := by decide +kernel
theorem dX6_cut_37 : decode cX6_cut 37 = .ok (.getfield 205, 3) := by decide +kernel
theorem dX6_cut_40 : decode cX6_cut 40 = .ok (.iconst (-1), 1) := by decide +kernel
theorem dX6_cut_41 : decode cX6_cut 41 = .ok (.if_icmp .ne 6, 3) := by decide +kernel
theorem dX6_cut_44 : decode cX6_cut 44 = .ok (.bipush (-11), 2) := by decide +kernel
theorem dX6_cut_46 : decode cX6_cut 46 = .ok (.ireturn, 1) := by decide +kernel
theorem dX6_cut_47 : decode cX6_cut 47 = .ok (.aload 4, 2) := by decide +kernel
theorem dX6_cut_49 : decode cX6_cut 49 = .ok (.getfield 206, 3) := by decide +kernel
theorem dX6_cut_52 : decode cX6_cut 52 = .ok (.iconst 1, 1) := by decide +kernel
theorem dX6_cut_53 : decode cX6_cut 53 = .ok (.if_icmp .lt 23, 3) := by decide +kernel
theorem dX6_cut_56 : decode cX6_cut 56 = .ok (.aload 4, 2) := by decide +kernel
theorem dX6_cut_58 : decode cX6_cut 58 = .ok (.getfield 206, 3) := by decide +kernel
theorem dX6_cut_61 : decode cX6_cut 61 = .ok (.bipush 10, 2) := by decide +kernel
theorem dX6_cut_63 : decode cX6_cut 63 = .ok (.if_icmp .gt 13, 3) := by decide +kernel
theorem dX6_cut_66 : decode cX6_cut 66 = .ok (.aload 4, 2) := by decide +kernel
theorem dX6_cut_68 : decode cX6_cut 68 = .ok (.bipush 99, 2) := by decide +kernel
theorem dX6_cut_70 : decode cX6_cut 70 = .ok (.invokevirtual 224, 3) := by decide +kernel
theorem dX6_cut_73 : decode cX6_cut 73 = .ok (.ifCond .ne 6, 3) := by decide +kernel
theorem dX6_cut_76 : decode cX6_cut 76 = .ok (.bipush (-2), 2) := by decide +kernel
theorem dX6_cut_78 : decode cX6_cut 78 = .ok (.ireturn, 1) := by decide +kernel
theorem dX6_cut_79 : decode cX6_cut 79 = .ok (.aload 4, 2) := by decide +kernel
theorem dX6_cut_81 : decode cX6_cut 81 = .ok (.getfield 206, 3) := by decide +kernel
theorem dX6_cut_84 : decode cX6_cut 84 = .ok (.iload_n 1, 1) := by decide +kernel
theorem dX6_cut_85 : decode cX6_cut 85 = .ok (.if_icmp .ge 5, 3) := by decide +kernel
theorem dX6_cut_88 : decode cX6_cut 88 = .ok (.iconst (-1), 1) := by decide +kernel
theorem dX6_cut_89 : decode cX6_cut 89 = .ok (.ireturn, 1) := by decide +kernel
theorem dX6_cut_90 : decode cX6_cut 90 = .ok (.aload 4, 2) := by decide +kernel
theorem dX6_cut_92 : decode cX6_cut 92 = .ok (.iload_n 1, 1) := by decide +kernel
theorem dX6_cut_93 : decode cX6_cut 93 = .ok (.invokestatic 227, 3) := by decide +kernel
theorem dX6_cut_96 : decode cX6_cut 96 = .ok (.istore 5, 2) := by decide +kernel
theorem dX6_cut_98 : decode cX6_cut 98 = .ok (.iload_n 3, 1) := by decide +kernel
theorem dX6_cut_99 : decode cX6_cut 99 = .ok (.ifCond .ne 13, 3) := by decide +kernel
theorem dX6_cut_102 : decode cX6_cut 102 = .ok (.aload 4, 2) := by decide +kernel
theorem dX6_cut_104 : decode cX6_cut 104 = .ok (.iload 5, 2) := by decide +kernel
theorem dX6_cut_106 : decode cX6_cut 106 = .ok (.invokevirtual 231, 3) := by decide +kernel
theorem dX6_cut_109 : decode cX6_cut 109 = .ok (.goto 5, 3) := by decide +kernel
theorem dX6_cut_112 : decode cX6_cut 112 = .ok (.iload 5, 2) := by decide +kernel
theorem dX6_cut_114 : decode cX6_cut 114 = .ok (.ireturn, 1) := by decide +kernel
set_option maxRecDepth 100000 in
theorem ggX6_image_X2_keep : GoodIn wsX6_image wsX2_keep := goodIn_r _ [10, 11, 12, 13, 14, 15, 16, 17, 18, 34, 35, 36, 37, 38, 39, 40] rfl (by decide +kernel)
set_option maxRecDepth 100000 in
theorem gX6_image_X2_keep_n234 : GoodIn wsX6_image (wsX2_keep) := ggX6_image_X2_keep
theorem dX6_image_0 : decode cX6_image 0 = .ok (.iconst 0, 1) := by decide +kernel
theorem dX6_image_1 : decode cX6_image 1 = .ok (.istore_n 1, 1) := by decide +kernel
theorem dX6_image_2 : decode cX6_image 2 = .ok (.iload_n 1, 1) := by decide +kernel
theorem dX6_image_3 : decode cX6_image 3 = .ok (.aload_n 0, 1) := by decide +kernel
theorem dX6_image_4 : decode cX6_image 4 = .ok (.getfield 15, 3) := by decide +kernel
theorem dX6_image_7 : decode cX6_image 7 = .ok (.if_icmp .ge 18, 3) := by decide +kernel
theorem dX6_image_10 : decode cX6_image 10 = .ok (.aload_n 0, 1) := by decide +kernel
theorem dX6_image_11 : decode cX6_image 11 = .ok (.getfield 11, 3) := by decide +kernel
theorem dX6_image_14 : decode cX6_image 14 = .ok (.iload_n 1, 1) := by decide +kernel
theorem dX6_image_15 : decode cX6_image 15 = .ok (.aaload, 1) := by decide +kernel
theorem dX6_image_16 : decode cX6_image 16 = .ok (.invokevirtual 234, 3) := by decide +kernel
theorem dX6_image_19 : decode cX6_image 19 = .ok (.iinc 1 1, 3) := by decide +kernel
theorem dX6_image_22 : decode cX6_image 22 = .ok (.goto (-20), 3) := by decide +kernel
theorem dX6_image_25 : decode cX6_image 25 = .ok (.aload_n 0, 1) := by decide +kernel
theorem dX6_image_26 : decode cX6_image 26 = .ok (.iconst 1, 1) := by decide +kernel
theorem dX6_image_27 : decode cX6_image 27 = .ok (.putfield 73, 3) := by decide +kernel
theorem dX6_image_30 : decode cX6_image 30 = .ok (.aload_n 0, 1) := by decide +kernel
theorem dX6_image_31 : decode cX6_image 31 = .ok (.aload_n 0, 1) := by decide +kernel
theorem dX6_image_32 : decode cX6_image 32 = .ok (.getfield 15, 3) := by decide +kernel
theorem dX6_image_35 : decode cX6_image 35 = .ok (.putfield 77, 3) := by decide +kernel
theorem dX6_image_38 : decode cX6_image 38 = .ok (.aload_n 0, 1) := by decide +kernel
theorem dX6_image_39 : decode cX6_image 39 = .ok (.aload_n 0, 1) := by decide +kernel
theorem dX6_image_40 : decode cX6_image 40 = .ok (.getfield 28, 3) := by decide +kernel
theorem dX6_image_43 : decode cX6_image 43 = .ok (.putfield 80, 3) := by decide +kernel
theorem dX6_image_46 : decode cX6_image 46 = .ok (.aload_n 0, 1) := by decide +kernel
theorem dX6_image_47 : decode cX6_image 47 = .ok (.getfield 15, 3) := by decide +kernel
theorem dX6_image_50 : decode cX6_image 50 = .ok (.ireturn, 1) := by decide +kernel
set_option maxRecDepth 100000 in
theorem ggX6_back_X2_lay : GoodIn wsX6_back wsX2_lay := goodIn_r _ [10, 11, 12, 13, 14, 15, 16, 17, 18, 34, 35, 36, 37, 38, 39, 40] rfl (by decide +kernel)
set_option maxRecDepth 100000 in
theorem gX6_back_X2_lay_n237 : GoodIn wsX6_back (wsX2_lay) := ggX6_back_X2_lay
theorem dX6_back_0 : decode cX6_back 0 = .ok (.aload_n 0, 1) := by decide +kernel
theorem dX6_back_1 : decode cX6_back 1 = .ok (.getfield 73, 3) := by decide +kernel
theorem dX6_back_4 : decode cX6_back 4 = .ok (.ifCond .ne 6, 3) := by decide +kernel
theorem dX6_back_7 : decode cX6_back 7 = .ok (.bipush (-3), 2) := by decide +kernel
theorem dX6_back_9 : decode cX6_back 9 = .ok (.ireturn, 1) := by decide +kernel
theorem dX6_back_10 : decode cX6_back 10 = .ok (.iconst 0, 1) := by decide +kernel
theorem dX6_back_11 : decode cX6_back 11 = .ok (.istore_n 1, 1) := by decide +kernel
theorem dX6_back_12 : decode cX6_back 12 = .ok (.iload_n 1, 1) := by decide +kernel
theorem dX6_back_13 : decode cX6_back 13 = .ok (.aload_n 0, 1) := by decide +kernel
theorem dX6_back_14 : decode cX6_back 14 = .ok (.getfield 77, 3) := by decide +kernel
theorem dX6_back_17 : decode cX6_back 17 = .ok (.if_icmp .ge 26, 3) := by decide +kernel
theorem dX6_back_20 : decode cX6_back 20 = .ok (.iload_n 1, 1) := by decide +kernel
theorem dX6_back_21 : decode cX6_back 21 = .ok (.aload_n 0, 1) := by decide +kernel
theorem dX6_back_22 : decode cX6_back 22 = .ok (.getfield 15, 3) := by decide +kernel
theorem dX6_back_25 : decode cX6_back 25 = .ok (.if_icmp .ge 18, 3) := by decide +kernel
theorem dX6_back_28 : decode cX6_back 28 = .ok (.aload_n 0, 1) := by decide +kernel
theorem dX6_back_29 : decode cX6_back 29 = .ok (.getfield 11, 3) := by decide +kernel
theorem dX6_back_32 : decode cX6_back 32 = .ok (.iload_n 1, 1) := by decide +kernel
theorem dX6_back_33 : decode cX6_back 33 = .ok (.aaload, 1) := by decide +kernel
theorem dX6_back_34 : decode cX6_back 34 = .ok (.invokevirtual 237, 3) := by decide +kernel
theorem dX6_back_37 : decode cX6_back 37 = .ok (.iinc 1 1, 3) := by decide +kernel
theorem dX6_back_40 : decode cX6_back 40 = .ok (.goto (-28), 3) := by decide +kernel
theorem dX6_back_43 : decode cX6_back 43 = .ok (.aload_n 0, 1) := by decide +kernel
theorem dX6_back_44 : decode cX6_back 44 = .ok (.aload_n 0, 1) := by decide +kernel
theorem dX6_back_45 : decode cX6_back 45 = .ok (.getfield 80, 3) := by decide +kernel
theorem dX6_back_48 : decode cX6_back 48 = .ok (.putfield 28, 3) := by decide +kernel
theorem dX6_back_51 : decode cX6_back 51 = .ok (.aload_n 0, 1) := by decide +kernel
theorem dX6_back_52 : decode cX6_back 52 = .ok (.getfield 15, 3) := by decide +kernel
theorem dX6_back_55 : decode cX6_back 55 = .ok (.ireturn, 1) := by decide +kernel
set_option maxRecDepth 100000 in
theorem ggX6_count_X6_allWeights : GoodIn wsX6_count wsX6_allWeights := goodIn_r _ [9, 1, 10, 11, 12, 13, 14, 15, 20, 21, 22, 23, 24, 25, 26, 27, 28, 29, 30, 31, 32, 33, 34, 35, 36, 37, 38, 39, 40, 41] rfl (by decide +kernel)
set_option maxRecDepth 100000 in
theorem gX6_count_X6_allWeights : GoodIn wsX6_count (wsV RX6 240 RX6 yX6_allWeights wsX6_allWeights) := goodIn_app (goodIn_of _ (by decide +kernel)) ggX6_count_X6_allWeights
set_option maxRecDepth 100000 in
theorem ggX6_count_X6_allClasses : GoodIn wsX6_count wsX6_allClasses := goodIn_r _ [19, 1, 10, 20, 21, 22, 23, 24, 25, 26, 27, 28, 29, 30, 31, 32, 33, 34, 35, 36, 37, 38, 39, 40, 41] rfl (by decide +kernel)
set_option maxRecDepth 100000 in
theorem gX6_count_X6_allClasses : GoodIn wsX6_count (wsV RX6 243 RX6 yX6_allClasses wsX6_allClasses) := goodIn_app (goodIn_of _ (by decide +kernel)) ggX6_count_X6_allClasses
theorem dX6_count_0 : decode cX6_count 0 = .ok (.iload_n 1, 1) := by decide +kernel
theorem dX6_count_1 : decode cX6_count 1 = .ok (.tableswitch 69 0 5 #[39, 44, 49, 54, 59, 64], 39) := by decide +kernel
theorem dX6_count_40 : decode cX6_count 40 = .ok (.aload_n 0, 1) := by decide +kernel
theorem dX6_count_41 : decode cX6_count 41 = .ok (.getfield 15, 3) := by decide +kernel
theorem dX6_count_44 : decode cX6_count 44 = .ok (.ireturn, 1) := by decide +kernel
theorem dX6_count_45 : decode cX6_count 45 = .ok (.aload_n 0, 1) := by decide +kernel
theorem dX6_count_46 : decode cX6_count 46 = .ok (.getfield 25, 3) := by decide +kernel
theorem dX6_count_49 : decode cX6_count 49 = .ok (.ireturn, 1) := by decide +kernel
theorem dX6_count_50 : decode cX6_count 50 = .ok (.aload_n 0, 1) := by decide +kernel
theorem dX6_count_51 : decode cX6_count 51 = .ok (.getfield 35, 3) := by decide +kernel
theorem dX6_count_54 : decode cX6_count 54 = .ok (.ireturn, 1) := by decide +kernel
theorem dX6_count_55 : decode cX6_count 55 = .ok (.aload_n 0, 1) := by decide +kernel
theorem dX6_count_56 : decode cX6_count 56 = .ok (.getfield 28, 3) := by decide +kernel
theorem dX6_count_59 : decode cX6_count 59 = .ok (.ireturn, 1) := by decide +kernel
theorem dX6_count_60 : decode cX6_count 60 = .ok (.aload_n 0, 1) := by decide +kernel
theorem dX6_count_61 : decode cX6_count 61 = .ok (.invokevirtual 240, 3) := by decide +kernel
theorem dX6_count_64 : decode cX6_count 64 = .ok (.ireturn, 1) := by decide +kernel
theorem dX6_count_65 : decode cX6_count 65 = .ok (.aload_n 0, 1) := by decide +kernel
theorem dX6_count_66 : decode cX6_count 66 = .ok (.invokevirtual 243, 3) := by decide +kernel
theorem dX6_count_69 : decode cX6_count 69 = .ok (.ireturn, 1) := by decide +kernel
theorem dX6_count_70 : decode cX6_count 70 = .ok (.bipush (-2), 2) := by decide +kernel
theorem dX6_count_72 : decode cX6_count 72 = .ok (.ireturn, 1) := by decide +kernel
set_option maxRecDepth 100000 in
theorem ggX6_sheet_X6_laid : GoodIn wsX6_sheet wsX6_laid := goodIn_r _ [5, 6, 18, 19, 20, 21, 22, 23, 24, 25, 26, 27, 28, 29, 30, 31, 32] rfl (by decide +kernel)
set_option maxRecDepth 100000 in
theorem gX6_sheet_X6_laid : GoodIn wsX6_sheet (wsV RX6 201 RX6 yX6_laid wsX6_laid) := goodIn_app (goodIn_of _ (by decide +kernel)) ggX6_sheet_X6_laid
set_option maxRecDepth 100000 in
theorem ggX6_sheet_X4_becomes : GoodIn wsX6_sheet wsX4_becomes := goodIn_r _ [10, 11, 12, 13, 14, 15, 16, 17, 33, 34, 35] rfl (by decide +kernel)
set_option maxRecDepth 100000 in
theorem gX6_sheet_X4_becomes_n246 : GoodIn wsX6_sheet (wsX4_becomes) := ggX6_sheet_X4_becomes
theorem dX6_sheet_0 : decode cX6_sheet 0 = .ok (.aload_n 0, 1) := by decide +kernel
theorem dX6_sheet_1 : decode cX6_sheet 1 = .ok (.iload_n 1, 1) := by decide +kernel
theorem dX6_sheet_2 : decode cX6_sheet 2 = .ok (.invokevirtual 201, 3) := by decide +kernel
theorem dX6_sheet_5 : decode cX6_sheet 5 = .ok (.astore 4, 2) := by decide +kernel
theorem dX6_sheet_7 : decode cX6_sheet 7 = .ok (.aload 4, 2) := by decide +kernel
theorem dX6_sheet_9 : decode cX6_sheet 9 = .ok (.ifnull 13, 3) := by decide +kernel
theorem dX6_sheet_12 : decode cX6_sheet 12 = .ok (.iload_n 2, 1) := by decide +kernel
theorem dX6_sheet_13 : decode cX6_sheet 13 = .ok (.iconst (-1), 1) := by decide +kernel
theorem dX6_sheet_14 : decode cX6_sheet 14 = .ok (.if_icmp .lt 8, 3) := by decide +kernel
theorem dX6_sheet_17 : decode cX6_sheet 17 = .ok (.iload_n 2, 1) := by decide +kernel
theorem dX6_sheet_18 : decode cX6_sheet 18 = .ok (.iconst 2, 1) := by decide +kernel
theorem dX6_sheet_19 : decode cX6_sheet 19 = .ok (.if_icmp .le 6, 3) := by decide +kernel
theorem dX6_sheet_22 : decode cX6_sheet 22 = .ok (.bipush (-2), 2) := by decide +kernel
theorem dX6_sheet_24 : decode cX6_sheet 24 = .ok (.ireturn, 1) := by decide +kernel
theorem dX6_sheet_25 : decode cX6_sheet 25 = .ok (.iload_n 2, 1) := by decide +kernel
theorem dX6_sheet_26 : decode cX6_sheet 26 = .ok (.iconst (-1), 1) := by decide +kernel
theorem dX6_sheet_27 : decode cX6_sheet 27 = .ok (.if_icmp .ne 7, 3) := by decide +kernel
theorem dX6_sheet_30 : decode cX6_sheet 30 = .ok (.iconst 0, 1) := by decide +kernel
theorem dX6_sheet_31 : decode cX6_sheet 31 = .ok (.goto 4, 3) := by decide +kernel
theorem dX6_sheet_34 : decode cX6_sheet 34 = .ok (.iload_n 3, 1) := by decide +kernel
theorem dX6_sheet_35 : decode cX6_sheet 35 = .ok (.istore 5, 2) := by decide +kernel
theorem dX6_sheet_37 : decode cX6_sheet 37 = .ok (.iload 5, 2) := by decide +kernel
theorem dX6_sheet_39 : decode cX6_sheet 39 = .ok (.bipush 40, 2) := by decide +kernel
theorem dX6_sheet_41 : decode cX6_sheet 41 = .ok (.if_icmp .le 6, 3) := by decide +kernel
theorem dX6_sheet_44 : decode cX6_sheet 44 = .ok (.bipush (-2), 2) := by decide +kernel
theorem dX6_sheet_46 : decode cX6_sheet 46 = .ok (.ireturn, 1) := by decide +kernel
theorem dX6_sheet_47 : decode cX6_sheet 47 = .ok (.iload 5, 2) := by decide +kernel
theorem dX6_sheet_49 : decode cX6_sheet 49 = .ok (.ifCond .ge 6, 3) := by decide +kernel
theorem dX6_sheet_52 : decode cX6_sheet 52 = .ok (.bipush (-14), 2) := by decide +kernel
theorem dX6_sheet_54 : decode cX6_sheet 54 = .ok (.ireturn, 1) := by decide +kernel
theorem dX6_sheet_55 : decode cX6_sheet 55 = .ok (.aload 4, 2) := by decide +kernel
theorem dX6_sheet_57 : decode cX6_sheet 57 = .ok (.iload_n 2, 1) := by decide +kernel
theorem dX6_sheet_58 : decode cX6_sheet 58 = .ok (.iload 5, 2) := by decide +kernel
theorem dX6_sheet_60 : decode cX6_sheet 60 = .ok (.invokevirtual 246, 3) := by decide +kernel
theorem dX6_sheet_63 : decode cX6_sheet 63 = .ok (.iconst 1, 1) := by decide +kernel
theorem dX6_sheet_64 : decode cX6_sheet 64 = .ok (.ireturn, 1) := by decide +kernel
set_option maxRecDepth 100000 in
theorem ggX6_cell_X6_laid : GoodIn wsX6_cell wsX6_laid := goodIn_r _ [5, 6, 15, 16, 17, 18, 19, 20, 21, 22, 23, 24, 25, 26, 27, 28, 29] rfl (by decide +kernel)
set_option maxRecDepth 100000 in
theorem gX6_cell_X6_laid : GoodIn wsX6_cell (wsV RX6 201 RX6 yX6_laid wsX6_laid) := goodIn_app (goodIn_of _ (by decide +kernel)) ggX6_cell_X6_laid
set_option maxRecDepth 100000 in
theorem ggX6_cell_X4_cutDown : GoodIn wsX6_cell wsX4_cutDown := goodIn_r _ [10, 11, 12, 13, 14] rfl (by decide +kernel)
set_option maxRecDepth 100000 in
theorem gX6_cell_X4_cutDown_n250 : GoodIn wsX6_cell (wsX4_cutDown) := ggX6_cell_X4_cutDown
theorem dX6_cell_0 : decode cX6_cell 0 = .ok (.aload_n 0, 1) := by decide +kernel
theorem dX6_cell_1 : decode cX6_cell 1 = .ok (.iload_n 1, 1) := by decide +kernel
theorem dX6_cell_2 : decode cX6_cell 2 = .ok (.invokevirtual 201, 3) := by decide +kernel
theorem dX6_cell_5 : decode cX6_cell 5 = .ok (.astore 4, 2) := by decide +kernel
theorem dX6_cell_7 : decode cX6_cell 7 = .ok (.aload 4, 2) := by decide +kernel
theorem dX6_cell_9 : decode cX6_cell 9 = .ok (.ifnonnull 6, 3) := by decide +kernel
theorem dX6_cell_12 : decode cX6_cell 12 = .ok (.bipush (-2), 2) := by decide +kernel
theorem dX6_cell_14 : decode cX6_cell 14 = .ok (.ireturn, 1) := by decide +kernel
theorem dX6_cell_15 : decode cX6_cell 15 = .ok (.aload 4, 2) := by decide +kernel
theorem dX6_cell_17 : decode cX6_cell 17 = .ok (.getfield 205, 3) := by decide +kernel
theorem dX6_cell_20 : decode cX6_cell 20 = .ok (.iconst (-1), 1) := by decide +kernel
theorem dX6_cell_21 : decode cX6_cell 21 = .ok (.if_icmp .ne 6, 3) := by decide +kernel
theorem dX6_cell_24 : decode cX6_cell 24 = .ok (.bipush (-11), 2) := by decide +kernel
theorem dX6_cell_26 : decode cX6_cell 26 = .ok (.ireturn, 1) := by decide +kernel
theorem dX6_cell_27 : decode cX6_cell 27 = .ok (.iload_n 2, 1) := by decide +kernel
theorem dX6_cell_28 : decode cX6_cell 28 = .ok (.ifCond .lt 12, 3) := by decide +kernel
theorem dX6_cell_31 : decode cX6_cell 31 = .ok (.iload_n 2, 1) := by decide +kernel
theorem dX6_cell_32 : decode cX6_cell 32 = .ok (.aload 4, 2) := by decide +kernel
theorem dX6_cell_34 : decode cX6_cell 34 = .ok (.getfield 206, 3) := by decide +kernel
theorem dX6_cell_37 : decode cX6_cell 37 = .ok (.if_icmp .lt 6, 3) := by decide +kernel
theorem dX6_cell_40 : decode cX6_cell 40 = .ok (.bipush (-12), 2) := by decide +kernel
theorem dX6_cell_42 : decode cX6_cell 42 = .ok (.ireturn, 1) := by decide +kernel
theorem dX6_cell_43 : decode cX6_cell 43 = .ok (.aload 4, 2) := by decide +kernel
theorem dX6_cell_45 : decode cX6_cell 45 = .ok (.getfield 209, 3) := by decide +kernel
theorem dX6_cell_48 : decode cX6_cell 48 = .ok (.iload_n 2, 1) := by decide +kernel
theorem dX6_cell_49 : decode cX6_cell 49 = .ok (.aload 4, 2) := by decide +kernel
theorem dX6_cell_51 : decode cX6_cell 51 = .ok (.iload_n 3, 1) := by decide +kernel
theorem dX6_cell_52 : decode cX6_cell 52 = .ok (.invokevirtual 250, 3) := by decide +kernel
theorem dX6_cell_55 : decode cX6_cell 55 = .ok (.iastore, 1) := by decide +kernel
theorem dX6_cell_56 : decode cX6_cell 56 = .ok (.iconst 1, 1) := by decide +kernel
theorem dX6_cell_57 : decode cX6_cell 57 = .ok (.ireturn, 1) := by decide +kernel
set_option maxRecDepth 100000 in
theorem ggX6_copy_X6_laid : GoodIn wsX6_copy wsX6_laid := goodIn_r _ [9, 10, 14, 15, 16, 17, 18, 19, 20, 21, 22, 23, 24, 25, 26, 27, 28] rfl (by decide +kernel)
set_option maxRecDepth 100000 in
theorem gX6_copy_X6_laid : GoodIn wsX6_copy (wsV RX6 201 RX6 yX6_laid wsX6_laid) := goodIn_app (goodIn_of _ (by decide +kernel)) ggX6_copy_X6_laid
theorem dX6_copy_0 : decode cX6_copy 0 = .ok (.aload_n 0, 1) := by decide +kernel
theorem dX6_copy_1 : decode cX6_copy 1 = .ok (.iload_n 1, 1) := by decide +kernel
theorem dX6_copy_2 : decode cX6_copy 2 = .ok (.invokevirtual 201, 3) := by decide +kernel
theorem dX6_copy_5 : decode cX6_copy 5 = .ok (.astore 6, 2) := by decide +kernel
theorem dX6_copy_7 : decode cX6_copy 7 = .ok (.aload_n 0, 1) := by decide +kernel
theorem dX6_copy_8 : decode cX6_copy 8 = .ok (.iload_n 3, 1) := by decide +kernel
theorem dX6_copy_9 : decode cX6_copy 9 = .ok (.invokevirtual 201, 3) := by decide +kernel
theorem dX6_copy_12 : decode cX6_copy 12 = .ok (.astore 7, 2) := by decide +kernel
theorem dX6_copy_14 : decode cX6_copy 14 = .ok (.aload 6, 2) := by decide +kernel
theorem dX6_copy_16 : decode cX6_copy 16 = .ok (.ifnull 8, 3) := by decide +kernel
theorem dX6_copy_19 : decode cX6_copy 19 = .ok (.aload 7, 2) := by decide +kernel
theorem dX6_copy_21 : decode cX6_copy 21 = .ok (.ifnonnull 6, 3) := by decide +kernel
theorem dX6_copy_24 : decode cX6_copy 24 = .ok (.bipush (-2), 2) := by decide +kernel
theorem dX6_copy_26 : decode cX6_copy 26 = .ok (.ireturn, 1) := by decide +kernel
theorem dX6_copy_27 : decode cX6_copy 27 = .ok (.aload 6, 2) := by decide +kernel
theorem dX6_copy_29 : decode cX6_copy 29 = .ok (.getfield 205, 3) := by decide +kernel
theorem dX6_copy_32 : decode cX6_copy 32 = .ok (.iconst (-1), 1) := by decide +kernel
theorem dX6_copy_33 : decode cX6_copy 33 = .ok (.if_icmp .eq 12, 3) := by decide +kernel
theorem dX6_copy_36 : decode cX6_copy 36 = .ok (.aload 7, 2) := by decide +kernel
theorem dX6_copy_38 : decode cX6_copy 38 = .ok (.getfield 205, 3) := by decide +kernel
theorem dX6_copy_41 : decode cX6_copy 41 = .ok (.iconst (-1), 1) := by decide +kernel
theorem dX6_copy_42 : decode cX6_copy 42 = .ok (.if_icmp .ne 6, 3) := by decide +kernel
theorem dX6_copy_45 : decode cX6_copy 45 = .ok (.bipush (-11), 2) := by decide +kernel
theorem dX6_copy_47 : decode cX6_copy 47 = .ok (.ireturn, 1) := by decide +kernel
theorem dX6_copy_48 : decode cX6_copy 48 = .ok (.aload 6, 2) := by decide +kernel
theorem dX6_copy_50 : decode cX6_copy 50 = .ok (.getfield 205, 3) := by decide +kernel
theorem dX6_copy_53 : decode cX6_copy 53 = .ok (.aload 7, 2) := by decide +kernel
theorem dX6_copy_55 : decode cX6_copy 55 = .ok (.getfield 205, 3) := by decide +kernel
theorem dX6_copy_58 : decode cX6_copy 58 = .ok (.if_icmp .eq 6, 3) := by decide +kernel
theorem dX6_copy_61 : decode cX6_copy 61 = .ok (.bipush (-13), 2) := by decide +kernel
theorem dX6_copy_63 : decode cX6_copy 63 = .ok (.ireturn, 1) := by decide +kernel
theorem dX6_copy_64 : decode cX6_copy 64 = .ok (.iload 5, 2) := by decide +kernel
theorem dX6_copy_66 : decode cX6_copy 66 = .ok (.ifCond .lt 37, 3) := by decide +kernel
theorem dX6_copy_69 : decode cX6_copy 69 = .ok (.iload_n 2, 1) := by decide +kernel
theorem dX6_copy_70 : decode cX6_copy 70 = .ok (.ifCond .lt 33, 3) := by decide +kernel
theorem dX6_copy_73 : decode cX6_copy 73 = .ok (.iload 4, 2) := by decide +kernel
theorem dX6_copy_75 : decode cX6_copy 75 = .ok (.ifCond .lt 28, 3) := by decide +kernel
theorem dX6_copy_78 : decode cX6_copy 78 = .ok (.iload_n 2, 1) := by decide +kernel
theorem dX6_copy_79 : decode cX6_copy 79 = .ok (.aload 6, 2) := by decide +kernel
theorem dX6_copy_81 : decode cX6_copy 81 = .ok (.getfield 206, 3) := by decide +kernel
theorem dX6_copy_84 : decode cX6_copy 84 = .ok (.iload 5, 2) := by decide +kernel
theorem dX6_copy_86 : decode cX6_copy 86 = .ok (.isub, 1) := by decide +kernel
theorem dX6_copy_87 : decode cX6_copy 87 = .ok (.if_icmp .gt 16, 3) := by decide +kernel
theorem dX6_copy_90 : decode cX6_copy 90 = .ok (.iload 4, 2) := by decide +kernel
theorem dX6_copy_92 : decode cX6_copy 92 = .ok (.aload 7, 2) := by decide +kernel
theorem dX6_copy_94 : decode cX6_copy 94 = .ok (.getfield 206, 3) := by decide +kernel
theorem dX6_copy_97 : decode cX6_copy 97 = .ok (.iload 5, 2) := by decide +kernel
theorem dX6_copy_99 : decode cX6_copy 99 = .ok (.isub, 1) := by decide +kernel
theorem dX6_copy_100 : decode cX6_copy 100 = .ok (.if_icmp .le 6, 3) := by decide +kernel
theorem dX6_copy_103 : decode cX6_copy 103 = .ok (.bipush (-12), 2) := by decide +kernel
theorem dX6_copy_105 : decode cX6_copy 105 = .ok (.ireturn, 1) := by decide +kernel
theorem dX6_copy_106 : decode cX6_copy 106 = .ok (.aload 6, 2) := by decide +kernel
theorem dX6_copy_108 : decode cX6_copy 108 = .ok (.getfield 209, 3) := by decide +kernel
theorem dX6_copy_111 : decode cX6_copy 111 = .ok (.iload_n 2, 1) := by decide +kernel
theorem dX6_copy_112 : decode cX6_copy 112 = .ok (.aload 7, 2) := by decide +kernel
theorem dX6_copy_114 : decode cX6_copy 114 = .ok (.getfield 209, 3) := by decide +kernel
theorem dX6_copy_117 : decode cX6_copy 117 = .ok (.iload 4, 2) := by decide +kernel
theorem dX6_copy_119 : decode cX6_copy 119 = .ok (.iload 5, 2) := by decide +kernel
theorem dX6_copy_121 : decode cX6_copy 121 = .ok (.invokestatic 253, 3) := by decide +kernel
theorem dX6_copy_124 : decode cX6_copy 124 = .ok (.iload 5, 2) := by decide +kernel
theorem dX6_copy_126 : decode cX6_copy 126 = .ok (.ireturn, 1) := by decide +kernel
set_option maxRecDepth 100000 in
theorem ggX6_pupils_X6_laid : GoodIn wsX6_pupils wsX6_laid := goodIn_r _ [5, 6, 32, 33, 34, 35, 36, 37, 38, 39, 40, 41, 42, 43, 44, 45, 46] rfl (by decide +kernel)
set_option maxRecDepth 100000 in
theorem gX6_pupils_X6_laid : GoodIn wsX6_pupils (wsV RX6 201 RX6 yX6_laid wsX6_laid) := goodIn_app (goodIn_of _ (by decide +kernel)) ggX6_pupils_X6_laid
set_option maxRecDepth 100000 in
theorem ggX6_pupils_X6_pupil : GoodIn wsX6_pupils wsX6_pupil := goodIn_r _ [10, 11, 12, 13, 14, 15, 16, 17, 18, 19, 20, 21, 22, 23, 24, 25, 26, 27, 28, 32, 33, 34, 35, 36, 37, 38, 39, 40, 41, 42, 43, 44, 45, 46, 47, 48, 49, 50, 51, 52, 53] rfl (by decide +kernel)
set_option maxRecDepth 100000 in
theorem gX6_pupils_X6_pupil : GoodIn wsX6_pupils (wsV RX6 259 RX6 yX6_pupil wsX6_pupil) := goodIn_app (goodIn_of _ (by decide +kernel)) ggX6_pupils_X6_pupil
theorem dX6_pupils_0 : decode cX6_pupils 0 = .ok (.aload_n 0, 1) := by decide +kernel
theorem dX6_pupils_1 : decode cX6_pupils 1 = .ok (.iload_n 1, 1) := by decide +kernel
theorem dX6_pupils_2 : decode cX6_pupils 2 = .ok (.invokevirtual 201, 3) := by decide +kernel
theorem dX6_pupils_5 : decode cX6_pupils 5 = .ok (.astore 5, 2) := by decide +kernel
theorem dX6_pupils_7 : decode cX6_pupils 7 = .ok (.aload 5, 2) := by decide +kernel
theorem dX6_pupils_9 : decode cX6_pupils 9 = .ok (.ifnull 24, 3) := by decide +kernel
theorem dX6_pupils_12 : decode cX6_pupils 12 = .ok (.iload_n 2, 1) := by decide +kernel
theorem dX6_pupils_13 : decode cX6_pupils 13 = .ok (.ifCond .lt 20, 3) := by decide +kernel
theorem dX6_pupils_16 : decode cX6_pupils 16 = .ok (.iload_n 2, 1) := by decide +kernel
theorem dX6_pupils_17 : decode cX6_pupils 17 = .ok (.iconst 2, 1) := by decide +kernel
theorem dX6_pupils_18 : decode cX6_pupils 18 = .ok (.if_icmp .gt 15, 3) := by decide +kernel
theorem dX6_pupils_21 : decode cX6_pupils 21 = .ok (.iload 4, 2) := by decide +kernel
theorem dX6_pupils_23 : decode cX6_pupils 23 = .ok (.ifCond .lt 10, 3) := by decide +kernel
theorem dX6_pupils_26 : decode cX6_pupils 26 = .ok (.iload 4, 2) := by decide +kernel
theorem dX6_pupils_28 : decode cX6_pupils 28 = .ok (.bipush 8, 2) := by decide +kernel
theorem dX6_pupils_30 : decode cX6_pupils 30 = .ok (.if_icmp .le 6, 3) := by decide +kernel
theorem dX6_pupils_33 : decode cX6_pupils 33 = .ok (.bipush (-2), 2) := by decide +kernel
theorem dX6_pupils_35 : decode cX6_pupils 35 = .ok (.ireturn, 1) := by decide +kernel
theorem dX6_pupils_36 : decode cX6_pupils 36 = .ok (.aload 5, 2) := by decide +kernel
theorem dX6_pupils_38 : decode cX6_pupils 38 = .ok (.getfield 205, 3) := by decide +kernel
theorem dX6_pupils_41 : decode cX6_pupils 41 = .ok (.iconst (-1), 1) := by decide +kernel
theorem dX6_pupils_42 : decode cX6_pupils 42 = .ok (.if_icmp .eq 15, 3) := by decide +kernel
theorem dX6_pupils_45 : decode cX6_pupils 45 = .ok (.aload 5, 2) := by decide +kernel
theorem dX6_pupils_47 : decode cX6_pupils 47 = .ok (.getfield 205, 3) := by decide +kernel
theorem dX6_pupils_50 : decode cX6_pupils 50 = .ok (.iload_n 2, 1) := by decide +kernel
theorem dX6_pupils_51 : decode cX6_pupils 51 = .ok (.if_icmp .eq 6, 3) := by decide +kernel
theorem dX6_pupils_54 : decode cX6_pupils 54 = .ok (.bipush (-13), 2) := by decide +kernel
theorem dX6_pupils_56 : decode cX6_pupils 56 = .ok (.ireturn, 1) := by decide +kernel
theorem dX6_pupils_57 : decode cX6_pupils 57 = .ok (.aload 5, 2) := by decide +kernel
theorem dX6_pupils_59 : decode cX6_pupils 59 = .ok (.getfield 205, 3) := by decide +kernel
theorem dX6_pupils_62 : decode cX6_pupils 62 = .ok (.iconst (-1), 1) := by decide +kernel
theorem dX6_pupils_63 : decode cX6_pupils 63 = .ok (.if_icmp .ne 6, 3) := by decide +kernel
theorem dX6_pupils_66 : decode cX6_pupils 66 = .ok (.bipush (-11), 2) := by decide +kernel
theorem dX6_pupils_68 : decode cX6_pupils 68 = .ok (.ireturn, 1) := by decide +kernel
theorem dX6_pupils_69 : decode cX6_pupils 69 = .ok (.iconst 0, 1) := by decide +kernel
theorem dX6_pupils_70 : decode cX6_pupils 70 = .ok (.istore 6, 2) := by decide +kernel
theorem dX6_pupils_72 : decode cX6_pupils 72 = .ok (.iconst 0, 1) := by decide +kernel
theorem dX6_pupils_73 : decode cX6_pupils 73 = .ok (.istore 7, 2) := by decide +kernel
theorem dX6_pupils_75 : decode cX6_pupils 75 = .ok (.iload 7, 2) := by decide +kernel
theorem dX6_pupils_77 : decode cX6_pupils 77 = .ok (.iload 4, 2) := by decide +kernel
theorem dX6_pupils_79 : decode cX6_pupils 79 = .ok (.if_icmp .ge 68, 3) := by decide +kernel
theorem dX6_pupils_82 : decode cX6_pupils 82 = .ok (.iconst 2, 1) := by decide +kernel
theorem dX6_pupils_83 : decode cX6_pupils 83 = .ok (.iload 7, 2) := by decide +kernel
theorem dX6_pupils_85 : decode cX6_pupils 85 = .ok (.imul, 1) := by decide +kernel
theorem dX6_pupils_86 : decode cX6_pupils 86 = .ok (.istore 8, 2) := by decide +kernel
theorem dX6_pupils_88 : decode cX6_pupils 88 = .ok (.iload_n 3, 1) := by decide +kernel
theorem dX6_pupils_89 : decode cX6_pupils 89 = .ok (.ifCond .lt 17, 3) := by decide +kernel
theorem dX6_pupils_92 : decode cX6_pupils 92 = .ok (.iload_n 3, 1) := by decide +kernel
theorem dX6_pupils_93 : decode cX6_pupils 93 = .ok (.aload 5, 2) := by decide +kernel
theorem dX6_pupils_95 : decode cX6_pupils 95 = .ok (.getfield 206, 3) := by decide +kernel
theorem dX6_pupils_98 : decode cX6_pupils 98 = .ok (.iload 8, 2) := by decide +kernel
theorem dX6_pupils_100 : decode cX6_pupils 100 = .ok (.isub, 1) := by decide +kernel
theorem dX6_pupils_101 : decode cX6_pupils 101 = .ok (.iconst 1, 1) := by decide +kernel
theorem dX6_pupils_102 : decode cX6_pupils 102 = .ok (.isub, 1) := by decide +kernel
theorem dX6_pupils_103 : decode cX6_pupils 103 = .ok (.if_icmp .lt 6, 3) := by decide +kernel
theorem dX6_pupils_106 : decode cX6_pupils 106 = .ok (.bipush (-12), 2) := by decide +kernel
theorem dX6_pupils_108 : decode cX6_pupils 108 = .ok (.ireturn, 1) := by decide +kernel
theorem dX6_pupils_109 : decode cX6_pupils 109 = .ok (.aload_n 0, 1) := by decide +kernel
theorem dX6_pupils_110 : decode cX6_pupils 110 = .ok (.aload 5, 2) := by decide +kernel
theorem dX6_pupils_112 : decode cX6_pupils 112 = .ok (.getfield 209, 3) := by decide +kernel
theorem dX6_pupils_115 : decode cX6_pupils 115 = .ok (.iload_n 3, 1) := by decide +kernel
theorem dX6_pupils_116 : decode cX6_pupils 116 = .ok (.iload 8, 2) := by decide +kernel
theorem dX6_pupils_118 : decode cX6_pupils 118 = .ok (.iadd, 1) := by decide +kernel
theorem dX6_pupils_119 : decode cX6_pupils 119 = .ok (.iaload, 1) := by decide +kernel
theorem dX6_pupils_120 : decode cX6_pupils 120 = .ok (.aload 5, 2) := by decide +kernel
theorem dX6_pupils_122 : decode cX6_pupils 122 = .ok (.getfield 209, 3) := by decide +kernel
theorem dX6_pupils_125 : decode cX6_pupils 125 = .ok (.iload_n 3, 1) := by decide +kernel
theorem dX6_pupils_126 : decode cX6_pupils 126 = .ok (.iload 8, 2) := by decide +kernel
theorem dX6_pupils_128 : decode cX6_pupils 128 = .ok (.iadd, 1) := by decide +kernel
theorem dX6_pupils_129 : decode cX6_pupils 129 = .ok (.iconst 1, 1) := by decide +kernel
theorem dX6_pupils_130 : decode cX6_pupils 130 = .ok (.iadd, 1) := by decide +kernel
theorem dX6_pupils_131 : decode cX6_pupils 131 = .ok (.iaload, 1) := by decide +kernel
theorem dX6_pupils_132 : decode cX6_pupils 132 = .ok (.invokevirtual 259, 3) := by decide +kernel
theorem dX6_pupils_135 : decode cX6_pupils 135 = .ok (.ifCond .lt 6, 3) := by decide +kernel
theorem dX6_pupils_138 : decode cX6_pupils 138 = .ok (.iinc 6 1, 3) := by decide +kernel
theorem dX6_pupils_141 : decode cX6_pupils 141 = .ok (.iinc 7 1, 3) := by decide +kernel
theorem dX6_pupils_144 : decode cX6_pupils 144 = .ok (.goto (-69), 3) := by decide +kernel
theorem dX6_pupils_147 : decode cX6_pupils 147 = .ok (.iload 6, 2) := by decide +kernel
theorem dX6_pupils_149 : decode cX6_pupils 149 = .ok (.ireturn, 1) := by decide +kernel
set_option maxRecDepth 100000 in
theorem ggX6_taken_X6_known : GoodIn wsX6_taken wsX6_known := goodIn_r _ [5, 6, 7, 19, 20, 21, 22, 23, 24, 25, 26, 27, 28, 29, 30, 31, 32, 33] rfl (by decide +kernel)
set_option maxRecDepth 100000 in
theorem gX6_taken_X6_known : GoodIn wsX6_taken (wsV RX6 107 RX6 yX6_known wsX6_known) := goodIn_app (goodIn_of _ (by decide +kernel)) ggX6_taken_X6_known
set_option maxRecDepth 100000 in
theorem ggX6_taken_X6_isUnder : GoodIn wsX6_taken wsX6_isUnder := goodIn_r _ [10, 11] rfl (by decide +kernel)
set_option maxRecDepth 100000 in
theorem gX6_taken_X6_isUnder : GoodIn wsX6_taken (va_wsS RX6 263 yX6_isUnder wsX6_isUnder) := goodIn_app (goodIn_of _ (by decide +kernel)) ggX6_taken_X6_isUnder
theorem dX6_taken_0 : decode cX6_taken 0 = .ok (.iload_n 2, 1) := by decide +kernel
theorem dX6_taken_1 : decode cX6_taken 1 = .ok (.ifCond .lt 9, 3) := by decide +kernel
theorem dX6_taken_4 : decode cX6_taken 4 = .ok (.iload_n 2, 1) := by decide +kernel
theorem dX6_taken_5 : decode cX6_taken 5 = .ok (.bipush 6, 2) := by decide +kernel
theorem dX6_taken_7 : decode cX6_taken 7 = .ok (.if_icmp .lt 6, 3) := by decide +kernel
theorem dX6_taken_10 : decode cX6_taken 10 = .ok (.bipush (-2), 2) := by decide +kernel
theorem dX6_taken_12 : decode cX6_taken 12 = .ok (.ireturn, 1) := by decide +kernel
theorem dX6_taken_13 : decode cX6_taken 13 = .ok (.aload_n 0, 1) := by decide +kernel
theorem dX6_taken_14 : decode cX6_taken 14 = .ok (.iload_n 1, 1) := by decide +kernel
theorem dX6_taken_15 : decode cX6_taken 15 = .ok (.invokevirtual 107, 3) := by decide +kernel
theorem dX6_taken_18 : decode cX6_taken 18 = .ok (.astore_n 3, 1) := by decide +kernel
theorem dX6_taken_19 : decode cX6_taken 19 = .ok (.aload_n 3, 1) := by decide +kernel
theorem dX6_taken_20 : decode cX6_taken 20 = .ok (.ifnonnull 6, 3) := by decide +kernel
theorem dX6_taken_23 : decode cX6_taken 23 = .ok (.bipush (-11), 2) := by decide +kernel
theorem dX6_taken_25 : decode cX6_taken 25 = .ok (.ireturn, 1) := by decide +kernel
theorem dX6_taken_26 : decode cX6_taken 26 = .ok (.aload_n 3, 1) := by decide +kernel
theorem dX6_taken_27 : decode cX6_taken 27 = .ok (.getfield 119, 3) := by decide +kernel

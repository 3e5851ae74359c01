theorem dX0_init_0 : decode cX0_init 0 = .ok (.aload_n 0, 1) := by decide +kernel
theorem dX0_init_1 : decode cX0_init 1 = .ok (.invokespecial 5, 3) := by decide +kernel
theorem dX0_init_4 : decode cX0_init 4 = .ok (.aload_n 0, 1) := by decide +kernel
theorem dX0_init_5 : decode cX0_init 5 = .ok (.aconst_null, 1) := by decide +kernel
theorem dX0_init_6 : decode cX0_init 6 = .ok (.putfield 11, 3) := by decide +kernel
theorem dX0_init_9 : decode cX0_init 9 = .ok (.aload_n 0, 1) := by decide +kernel
theorem dX0_init_10 : decode cX0_init 10 = .ok (.iconst (-1), 1) := by decide +kernel
theorem dX0_init_11 : decode cX0_init 11 = .ok (.putfield 15, 3) := by decide +kernel
theorem dX0_init_14 : decode cX0_init 14 = .ok (.aload_n 0, 1) := by decide +kernel
theorem dX0_init_15 : decode cX0_init 15 = .ok (.iconst (-1), 1) := by decide +kernel
theorem dX0_init_16 : decode cX0_init 16 = .ok (.putfield 19, 3) := by decide +kernel
theorem dX0_init_19 : decode cX0_init 19 = .ok (.aload_n 0, 1) := by decide +kernel
theorem dX0_init_20 : decode cX0_init 20 = .ok (.sipush 2700, 3) := by decide +kernel
theorem dX0_init_23 : decode cX0_init 23 = .ok (.newarray .byte, 2) := by decide +kernel
theorem dX0_init_25 : decode cX0_init 25 = .ok (.putfield 22, 3) := by decide +kernel
theorem dX0_init_28 : decode cX0_init 28 = .ok (.aload_n 0, 1) := by decide +kernel
theorem dX0_init_29 : decode cX0_init 29 = .ok (.bipush 6, 2) := by decide +kernel
theorem dX0_init_31 : decode cX0_init 31 = .ok (.newarray .int, 2) := by decide +kernel
theorem dX0_init_33 : decode cX0_init 33 = .ok (.putfield 26, 3) := by decide +kernel
theorem dX0_init_36 : decode cX0_init 36 = .ok (.aload_n 0, 1) := by decide +kernel
theorem dX0_init_37 : decode cX0_init 37 = .ok (.sipush 160, 3) := by decide +kernel
theorem dX0_init_40 : decode cX0_init 40 = .ok (.newarray .int, 2) := by decide +kernel
theorem dX0_init_42 : decode cX0_init 42 = .ok (.putfield 30, 3) := by decide +kernel
theorem dX0_init_45 : decode cX0_init 45 = .ok (.return_, 1) := by decide +kernel
set_option maxRecDepth 100000 in
theorem ggX0_rely_J7_fill_031fb : GoodIn wsX0_rely wsJ7_fill_031fb := goodIn_r _ [8] rfl (by decide +kernel)
set_option maxRecDepth 100000 in
theorem gX0_rely_J7_fill_031fb : GoodIn wsX0_rely (va_wsS RX0 33 yJ7_fill_031fb wsJ7_fill_031fb) := goodIn_app (goodIn_of _ (by decide +kernel)) ggX0_rely_J7_fill_031fb
theorem dX0_rely_0 : decode cX0_rely 0 = .ok (.iload_n 2, 1) := by decide +kernel
theorem dX0_rely_1 : decode cX0_rely 1 = .ok (.aload_n 0, 1) := by decide +kernel
theorem dX0_rely_2 : decode cX0_rely 2 = .ok (.getfield 15, 3) := by decide +kernel
theorem dX0_rely_5 : decode cX0_rely 5 = .ok (.if_icmp .ne 12, 3) := by decide +kernel
theorem dX0_rely_8 : decode cX0_rely 8 = .ok (.iload_n 3, 1) := by decide +kernel
theorem dX0_rely_9 : decode cX0_rely 9 = .ok (.aload_n 0, 1) := by decide +kernel
theorem dX0_rely_10 : decode cX0_rely 10 = .ok (.getfield 19, 3) := by decide +kernel
theorem dX0_rely_13 : decode cX0_rely 13 = .ok (.if_icmp .ne 4, 3) := by decide +kernel
theorem dX0_rely_16 : decode cX0_rely 16 = .ok (.return_, 1) := by decide +kernel
theorem dX0_rely_17 : decode cX0_rely 17 = .ok (.aload_n 0, 1) := by decide +kernel
theorem dX0_rely_18 : decode cX0_rely 18 = .ok (.aload_n 1, 1) := by decide +kernel
theorem dX0_rely_19 : decode cX0_rely 19 = .ok (.putfield 11, 3) := by decide +kernel
theorem dX0_rely_22 : decode cX0_rely 22 = .ok (.aload_n 0, 1) := by decide +kernel
theorem dX0_rely_23 : decode cX0_rely 23 = .ok (.iload_n 2, 1) := by decide +kernel
theorem dX0_rely_24 : decode cX0_rely 24 = .ok (.putfield 15, 3) := by decide +kernel
theorem dX0_rely_27 : decode cX0_rely 27 = .ok (.aload_n 0, 1) := by decide +kernel
theorem dX0_rely_28 : decode cX0_rely 28 = .ok (.iload_n 3, 1) := by decide +kernel
theorem dX0_rely_29 : decode cX0_rely 29 = .ok (.putfield 19, 3) := by decide +kernel
theorem dX0_rely_32 : decode cX0_rely 32 = .ok (.aload_n 0, 1) := by decide +kernel
theorem dX0_rely_33 : decode cX0_rely 33 = .ok (.getfield 22, 3) := by decide +kernel
theorem dX0_rely_36 : decode cX0_rely 36 = .ok (.iconst (-1), 1) := by decide +kernel
theorem dX0_rely_37 : decode cX0_rely 37 = .ok (.invokestatic 33, 3) := by decide +kernel
theorem dX0_rely_40 : decode cX0_rely 40 = .ok (.return_, 1) := by decide +kernel
set_option maxRecDepth 100000 in
theorem ggX0_asks_X0_worth : GoodIn wsX0_asks wsX0_worth := goodIn_r _ [15, 16, 17, 2, 18, 19, 14, 20, 21, 22, 23, 24, 25, 26, 27, 28] rfl (by decide +kernel)
set_option maxRecDepth 100000 in
theorem gX0_asks_X0_worth : GoodIn wsX0_asks (wsV RX0 45 RX0 yX0_worth wsX0_worth) := goodIn_app (goodIn_of _ (by decide +kernel)) ggX0_asks_X0_worth
theorem dX0_asks_0 : decode cX0_asks 0 = .ok (.iload_n 1, 1) := by decide +kernel
theorem dX0_asks_1 : decode cX0_asks 1 = .ok (.bipush 6, 2) := by decide +kernel
theorem dX0_asks_3 : decode cX0_asks 3 = .ok (.imul, 1) := by decide +kernel
theorem dX0_asks_4 : decode cX0_asks 4 = .ok (.iload 5, 2) := by decide +kernel
theorem dX0_asks_6 : decode cX0_asks 6 = .ok (.iadd, 1) := by decide +kernel
theorem dX0_asks_7 : decode cX0_asks 7 = .ok (.bipush 6, 2) := by decide +kernel
theorem dX0_asks_9 : decode cX0_asks 9 = .ok (.imul, 1) := by decide +kernel
theorem dX0_asks_10 : decode cX0_asks 10 = .ok (.iload 4, 2) := by decide +kernel
theorem dX0_asks_12 : decode cX0_asks 12 = .ok (.iadd, 1) := by decide +kernel
theorem dX0_asks_13 : decode cX0_asks 13 = .ok (.iconst 5, 1) := by decide +kernel
theorem dX0_asks_14 : decode cX0_asks 14 = .ok (.imul, 1) := by decide +kernel
theorem dX0_asks_15 : decode cX0_asks 15 = .ok (.iload_n 3, 1) := by decide +kernel
theorem dX0_asks_16 : decode cX0_asks 16 = .ok (.iadd, 1) := by decide +kernel
theorem dX0_asks_17 : decode cX0_asks 17 = .ok (.iconst 5, 1) := by decide +kernel
theorem dX0_asks_18 : decode cX0_asks 18 = .ok (.imul, 1) := by decide +kernel
theorem dX0_asks_19 : decode cX0_asks 19 = .ok (.iload_n 2, 1) := by decide +kernel
theorem dX0_asks_20 : decode cX0_asks 20 = .ok (.iadd, 1) := by decide +kernel
theorem dX0_asks_21 : decode cX0_asks 21 = .ok (.istore 6, 2) := by decide +kernel
theorem dX0_asks_23 : decode cX0_asks 23 = .ok (.iload 6, 2) := by decide +kernel
theorem dX0_asks_25 : decode cX0_asks 25 = .ok (.ifCond .lt 13, 3) := by decide +kernel
theorem dX0_asks_28 : decode cX0_asks 28 = .ok (.iload 6, 2) := by decide +kernel
theorem dX0_asks_30 : decode cX0_asks 30 = .ok (.aload_n 0, 1) := by decide +kernel
theorem dX0_asks_31 : decode cX0_asks 31 = .ok (.getfield 22, 3) := by decide +kernel
theorem dX0_asks_34 : decode cX0_asks 34 = .ok (.arraylength, 1) := by decide +kernel
theorem dX0_asks_35 : decode cX0_asks 35 = .ok (.if_icmp .lt 5, 3) := by decide +kernel
theorem dX0_asks_38 : decode cX0_asks 38 = .ok (.iconst 0, 1) := by decide +kernel
theorem dX0_asks_39 : decode cX0_asks 39 = .ok (.ireturn, 1) := by decide +kernel
theorem dX0_asks_40 : decode cX0_asks 40 = .ok (.aload_n 0, 1) := by decide +kernel
theorem dX0_asks_41 : decode cX0_asks 41 = .ok (.getfield 22, 3) := by decide +kernel
theorem dX0_asks_44 : decode cX0_asks 44 = .ok (.iload 6, 2) := by decide +kernel
theorem dX0_asks_46 : decode cX0_asks 46 = .ok (.baload, 1) := by decide +kernel
theorem dX0_asks_47 : decode cX0_asks 47 = .ok (.iconst (-1), 1) := by decide +kernel
theorem dX0_asks_48 : decode cX0_asks 48 = .ok (.if_icmp .ne 106, 3) := by decide +kernel
theorem dX0_asks_51 : decode cX0_asks 51 = .ok (.aload_n 0, 1) := by decide +kernel
theorem dX0_asks_52 : decode cX0_asks 52 = .ok (.getfield 26, 3) := by decide +kernel
theorem dX0_asks_55 : decode cX0_asks 55 = .ok (.iconst 0, 1) := by decide +kernel
theorem dX0_asks_56 : decode cX0_asks 56 = .ok (.iload_n 2, 1) := by decide +kernel
theorem dX0_asks_57 : decode cX0_asks 57 = .ok (.iastore, 1) := by decide +kernel
theorem dX0_asks_58 : decode cX0_asks 58 = .ok (.aload_n 0, 1) := by decide +kernel
theorem dX0_asks_59 : decode cX0_asks 59 = .ok (.getfield 26, 3) := by decide +kernel
theorem dX0_asks_62 : decode cX0_asks 62 = .ok (.iconst 1, 1) := by decide +kernel
theorem dX0_asks_63 : decode cX0_asks 63 = .ok (.iload_n 3, 1) := by decide +kernel
theorem dX0_asks_64 : decode cX0_asks 64 = .ok (.iastore, 1) := by decide +kernel
theorem dX0_asks_65 : decode cX0_asks 65 = .ok (.aload_n 0, 1) := by decide +kernel
theorem dX0_asks_66 : decode cX0_asks 66 = .ok (.getfield 26, 3) := by decide +kernel
theorem dX0_asks_69 : decode cX0_asks 69 = .ok (.iconst 2, 1) := by decide +kernel
theorem dX0_asks_70 : decode cX0_asks 70 = .ok (.iload 4, 2) := by decide +kernel
theorem dX0_asks_72 : decode cX0_asks 72 = .ok (.iastore, 1) := by decide +kernel
theorem dX0_asks_73 : decode cX0_asks 73 = .ok (.aload_n 0, 1) := by decide +kernel
theorem dX0_asks_74 : decode cX0_asks 74 = .ok (.getfield 26, 3) := by decide +kernel
theorem dX0_asks_77 : decode cX0_asks 77 = .ok (.iconst 3, 1) := by decide +kernel
theorem dX0_asks_78 : decode cX0_asks 78 = .ok (.aload_n 0, 1) := by decide +kernel
theorem dX0_asks_79 : decode cX0_asks 79 = .ok (.getfield 19, 3) := by decide +kernel
theorem dX0_asks_82 : decode cX0_asks 82 = .ok (.iastore, 1) := by decide +kernel
theorem dX0_asks_83 : decode cX0_asks 83 = .ok (.aload_n 0, 1) := by decide +kernel
theorem dX0_asks_84 : decode cX0_asks 84 = .ok (.getfield 26, 3) := by decide +kernel
theorem dX0_asks_87 : decode cX0_asks 87 = .ok (.iconst 4, 1) := by decide +kernel
theorem dX0_asks_88 : decode cX0_asks 88 = .ok (.iload 5, 2) := by decide +kernel
theorem dX0_asks_90 : decode cX0_asks 90 = .ok (.iastore, 1) := by decide +kernel
theorem dX0_asks_91 : decode cX0_asks 91 = .ok (.aload_n 0, 1) := by decide +kernel
theorem dX0_asks_92 : decode cX0_asks 92 = .ok (.getfield 26, 3) := by decide +kernel
theorem dX0_asks_95 : decode cX0_asks 95 = .ok (.iconst 5, 1) := by decide +kernel
theorem dX0_asks_96 : decode cX0_asks 96 = .ok (.iconst 0, 1) := by decide +kernel
theorem dX0_asks_97 : decode cX0_asks 97 = .ok (.iconst 4, 1) := by decide +kernel
theorem dX0_asks_98 : decode cX0_asks 98 = .ok (.iload 4, 2) := by decide +kernel
theorem dX0_asks_100 : decode cX0_asks 100 = .ok (.isub, 1) := by decide +kernel
theorem dX0_asks_101 : decode cX0_asks 101 = .ok (.invokestatic 39, 3) := by decide +kernel
theorem dX0_asks_104 : decode cX0_asks 104 = .ok (.iastore, 1) := by decide +kernel
theorem dX0_asks_105 : decode cX0_asks 105 = .ok (.iload_n 1, 1) := by decide +kernel
theorem dX0_asks_106 : decode cX0_asks 106 = .ok (.iconst 2, 1) := by decide +kernel
theorem dX0_asks_107 : decode cX0_asks 107 = .ok (.if_icmp .ne 8, 3) := by decide +kernel
theorem dX0_asks_110 : decode cX0_asks 110 = .ok (.bipush 99, 2) := by decide +kernel
theorem dX0_asks_112 : decode cX0_asks 112 = .ok (.goto 5, 3) := by decide +kernel
theorem dX0_asks_115 : decode cX0_asks 115 = .ok (.bipush 10, 2) := by decide +kernel
theorem dX0_asks_117 : decode cX0_asks 117 = .ok (.istore 7, 2) := by decide +kernel
theorem dX0_asks_119 : decode cX0_asks 119 = .ok (.aload_n 0, 1) := by decide +kernel
theorem dX0_asks_120 : decode cX0_asks 120 = .ok (.getfield 22, 3) := by decide +kernel
theorem dX0_asks_123 : decode cX0_asks 123 = .ok (.iload 6, 2) := by decide +kernel
theorem dX0_asks_125 : decode cX0_asks 125 = .ok (.iload_n 1, 1) := by decide +kernel
theorem dX0_asks_126 : decode cX0_asks 126 = .ok (.ifCond .ne 12, 3) := by decide +kernel
theorem dX0_asks_129 : decode cX0_asks 129 = .ok (.iload_n 2, 1) := by decide +kernel
theorem dX0_asks_130 : decode cX0_asks 130 = .ok (.iconst 4, 1) := by decide +kernel
theorem dX0_asks_131 : decode cX0_asks 131 = .ok (.if_icmp .ne 7, 3) := by decide +kernel
theorem dX0_asks_134 : decode cX0_asks 134 = .ok (.iconst 0, 1) := by decide +kernel
theorem dX0_asks_135 : decode cX0_asks 135 = .ok (.goto 18, 3) := by decide +kernel
theorem dX0_asks_138 : decode cX0_asks 138 = .ok (.iconst 0, 1) := by decide +kernel
theorem dX0_asks_139 : decode cX0_asks 139 = .ok (.iload 7, 2) := by decide +kernel
theorem dX0_asks_141 : decode cX0_asks 141 = .ok (.aload_n 0, 1) := by decide +kernel
theorem dX0_asks_142 : decode cX0_asks 142 = .ok (.iload_n 1, 1) := by decide +kernel
theorem dX0_asks_143 : decode cX0_asks 143 = .ok (.invokevirtual 45, 3) := by decide +kernel
theorem dX0_asks_146 : decode cX0_asks 146 = .ok (.invokestatic 49, 3) := by decide +kernel
theorem dX0_asks_149 : decode cX0_asks 149 = .ok (.invokestatic 39, 3) := by decide +kernel
theorem dX0_asks_152 : decode cX0_asks 152 = .ok (.i2b, 1) := by decide +kernel
theorem dX0_asks_153 : decode cX0_asks 153 = .ok (.bastore, 1) := by decide +kernel
theorem dX0_asks_154 : decode cX0_asks 154 = .ok (.aload_n 0, 1) := by decide +kernel
theorem dX0_asks_155 : decode cX0_asks 155 = .ok (.getfield 22, 3) := by decide +kernel
theorem dX0_asks_158 : decode cX0_asks 158 = .ok (.iload 6, 2) := by decide +kernel
theorem dX0_asks_160 : decode cX0_asks 160 = .ok (.baload, 1) := by decide +kernel
theorem dX0_asks_161 : decode cX0_asks 161 = .ok (.ireturn, 1) := by decide +kernel
set_option maxRecDepth 100000 in
theorem ggX0_worth_X0_joined : GoodIn wsX0_worth wsX0_joined := goodIn_r _ [7] rfl (by decide +kernel)
set_option maxRecDepth 100000 in
theorem gX0_worth_X0_joined : GoodIn wsX0_worth (va_wsS RX0 62 yX0_joined wsX0_joined) := goodIn_app (goodIn_of _ (by decide +kernel)) ggX0_worth_X0_joined
theorem dX0_worth_0 : decode cX0_worth 0 = .ok (.aload_n 0, 1) := by decide +kernel
theorem dX0_worth_1 : decode cX0_worth 1 = .ok (.getfield 11, 3) := by decide +kernel
theorem dX0_worth_4 : decode cX0_worth 4 = .ok (.ifnull 12, 3) := by decide +kernel
theorem dX0_worth_7 : decode cX0_worth 7 = .ok (.iload_n 1, 1) := by decide +kernel
theorem dX0_worth_8 : decode cX0_worth 8 = .ok (.ifCond .lt 8, 3) := by decide +kernel
theorem dX0_worth_11 : decode cX0_worth 11 = .ok (.iload_n 1, 1) := by decide +kernel
theorem dX0_worth_12 : decode cX0_worth 12 = .ok (.iconst 3, 1) := by decide +kernel
theorem dX0_worth_13 : decode cX0_worth 13 = .ok (.if_icmp .lt 5, 3) := by decide +kernel
theorem dX0_worth_16 : decode cX0_worth 16 = .ok (.iconst 0, 1) := by decide +kernel
theorem dX0_worth_17 : decode cX0_worth 17 = .ok (.ireturn, 1) := by decide +kernel
theorem dX0_worth_18 : decode cX0_worth 18 = .ok (.iconst 0, 1) := by decide +kernel
theorem dX0_worth_19 : decode cX0_worth 19 = .ok (.istore_n 2, 1) := by decide +kernel
theorem dX0_worth_20 : decode cX0_worth 20 = .ok (.aload_n 0, 1) := by decide +kernel
theorem dX0_worth_21 : decode cX0_worth 21 = .ok (.getfield 11, 3) := by decide +kernel
theorem dX0_worth_24 : decode cX0_worth 24 = .ok (.getfield 52, 3) := by decide +kernel
theorem dX0_worth_27 : decode cX0_worth 27 = .ok (.iload_n 1, 1) := by decide +kernel
theorem dX0_worth_28 : decode cX0_worth 28 = .ok (.iaload, 1) := by decide +kernel
theorem dX0_worth_29 : decode cX0_worth 29 = .ok (.istore_n 3, 1) := by decide +kernel
theorem dX0_worth_30 : decode cX0_worth 30 = .ok (.iload_n 3, 1) := by decide +kernel
theorem dX0_worth_31 : decode cX0_worth 31 = .ok (.aload_n 0, 1) := by decide +kernel
theorem dX0_worth_32 : decode cX0_worth 32 = .ok (.getfield 11, 3) := by decide +kernel
theorem dX0_worth_35 : decode cX0_worth 35 = .ok (.getfield 52, 3) := by decide +kernel
theorem dX0_worth_38 : decode cX0_worth 38 = .ok (.iload_n 1, 1) := by decide +kernel
theorem dX0_worth_39 : decode cX0_worth 39 = .ok (.iconst 1, 1) := by decide +kernel
theorem dX0_worth_40 : decode cX0_worth 40 = .ok (.iadd, 1) := by decide +kernel
theorem dX0_worth_41 : decode cX0_worth 41 = .ok (.iaload, 1) := by decide +kernel
theorem dX0_worth_42 : decode cX0_worth 42 = .ok (.if_icmp .ge 188, 3) := by decide +kernel
theorem dX0_worth_45 : decode cX0_worth 45 = .ok (.iload_n 3, 1) := by decide +kernel
theorem dX0_worth_46 : decode cX0_worth 46 = .ok (.aload_n 0, 1) := by decide +kernel
theorem dX0_worth_47 : decode cX0_worth 47 = .ok (.getfield 11, 3) := by decide +kernel
theorem dX0_worth_50 : decode cX0_worth 50 = .ok (.getfield 57, 3) := by decide +kernel
theorem dX0_worth_53 : decode cX0_worth 53 = .ok (.arraylength, 1) := by decide +kernel
theorem dX0_worth_54 : decode cX0_worth 54 = .ok (.if_icmp .ge 176, 3) := by decide +kernel
theorem dX0_worth_57 : decode cX0_worth 57 = .ok (.aload_n 0, 1) := by decide +kernel
theorem dX0_worth_58 : decode cX0_worth 58 = .ok (.getfield 11, 3) := by decide +kernel
theorem dX0_worth_61 : decode cX0_worth 61 = .ok (.getfield 57, 3) := by decide +kernel
theorem dX0_worth_64 : decode cX0_worth 64 = .ok (.iload_n 3, 1) := by decide +kernel
theorem dX0_worth_65 : decode cX0_worth 65 = .ok (.iaload, 1) := by decide +kernel
theorem dX0_worth_66 : decode cX0_worth 66 = .ok (.istore 4, 2) := by decide +kernel
theorem dX0_worth_68 : decode cX0_worth 68 = .ok (.iload 4, 2) := by decide +kernel
theorem dX0_worth_70 : decode cX0_worth 70 = .ok (.sipush 262, 3) := by decide +kernel
theorem dX0_worth_73 : decode cX0_worth 73 = .ok (.if_icmp .lt 55, 3) := by decide +kernel
theorem dX0_worth_76 : decode cX0_worth 76 = .ok (.iload_n 2, 1) := by decide +kernel
theorem dX0_worth_77 : decode cX0_worth 77 = .ok (.aload_n 0, 1) := by decide +kernel
theorem dX0_worth_78 : decode cX0_worth 78 = .ok (.getfield 30, 3) := by decide +kernel
theorem dX0_worth_81 : decode cX0_worth 81 = .ok (.arraylength, 1) := by decide +kernel
theorem dX0_worth_82 : decode cX0_worth 82 = .ok (.if_icmp .ge 46, 3) := by decide +kernel
theorem dX0_worth_85 : decode cX0_worth 85 = .ok (.aload_n 0, 1) := by decide +kernel
theorem dX0_worth_86 : decode cX0_worth 86 = .ok (.getfield 30, 3) := by decide +kernel
theorem dX0_worth_89 : decode cX0_worth 89 = .ok (.iload_n 2, 1) := by decide +kernel
theorem dX0_worth_90 : decode cX0_worth 90 = .ok (.iload 4, 2) := by decide +kernel
theorem dX0_worth_92 : decode cX0_worth 92 = .ok (.sipush 1000, 3) := by decide +kernel
theorem dX0_worth_95 : decode cX0_worth 95 = .ok (.if_icmp .lt 12, 3) := by decide +kernel
theorem dX0_worth_98 : decode cX0_worth 98 = .ok (.iload 4, 2) := by decide +kernel
theorem dX0_worth_100 : decode cX0_worth 100 = .ok (.sipush 1000, 3) := by decide +kernel
theorem dX0_worth_103 : decode cX0_worth 103 = .ok (.isub, 1) := by decide +kernel
theorem dX0_worth_104 : decode cX0_worth 104 = .ok (.goto 17, 3) := by decide +kernel
theorem dX0_worth_107 : decode cX0_worth 107 = .ok (.aload_n 0, 1) := by decide +kernel
theorem dX0_worth_108 : decode cX0_worth 108 = .ok (.getfield 26, 3) := by decide +kernel
theorem dX0_worth_111 : decode cX0_worth 111 = .ok (.iload 4, 2) := by decide +kernel
theorem dX0_worth_113 : decode cX0_worth 113 = .ok (.sipush 262, 3) := by decide +kernel
theorem dX0_worth_116 : decode cX0_worth 116 = .ok (.isub, 1) := by decide +kernel
theorem dX0_worth_117 : decode cX0_worth 117 = .ok (.bipush 6, 2) := by decide +kernel
theorem dX0_worth_119 : decode cX0_worth 119 = .ok (.irem, 1) := by decide +kernel
theorem dX0_worth_120 : decode cX0_worth 120 = .ok (.iaload, 1) := by decide +kernel
theorem dX0_worth_121 : decode cX0_worth 121 = .ok (.iastore, 1) := by decide +kernel
theorem dX0_worth_122 : decode cX0_worth 122 = .ok (.iinc 2 1, 3) := by decide +kernel
theorem dX0_worth_125 : decode cX0_worth 125 = .ok (.goto 99, 3) := by decide +kernel
theorem dX0_worth_128 : decode cX0_worth 128 = .ok (.iload_n 2, 1) := by decide +kernel
theorem dX0_worth_129 : decode cX0_worth 129 = .ok (.ifCond .le 60, 3) := by decide +kernel
theorem dX0_worth_132 : decode cX0_worth 132 = .ok (.iload 4, 2) := by decide +kernel
theorem dX0_worth_134 : decode cX0_worth 134 = .ok (.sipush 261, 3) := by decide +kernel
theorem dX0_worth_137 : decode cX0_worth 137 = .ok (.if_icmp .eq 9, 3) := by decide +kernel
theorem dX0_worth_140 : decode cX0_worth 140 = .ok (.iload 4, 2) := by decide +kernel
theorem dX0_worth_142 : decode cX0_worth 142 = .ok (.iconst 1, 1) := by decide +kernel
theorem dX0_worth_143 : decode cX0_worth 143 = .ok (.if_icmp .ne 46, 3) := by decide +kernel
theorem dX0_worth_146 : decode cX0_worth 146 = .ok (.aload_n 0, 1) := by decide +kernel
theorem dX0_worth_147 : decode cX0_worth 147 = .ok (.getfield 30, 3) := by decide +kernel
theorem dX0_worth_150 : decode cX0_worth 150 = .ok (.iload_n 2, 1) := by decide +kernel
theorem dX0_worth_151 : decode cX0_worth 151 = .ok (.iconst 1, 1) := by decide +kernel
theorem dX0_worth_152 : decode cX0_worth 152 = .ok (.isub, 1) := by decide +kernel
theorem dX0_worth_153 : decode cX0_worth 153 = .ok (.iaload, 1) := by decide +kernel
theorem dX0_worth_154 : decode cX0_worth 154 = .ok (.istore 5, 2) := by decide +kernel
theorem dX0_worth_156 : decode cX0_worth 156 = .ok (.aload_n 0, 1) := by decide +kernel
theorem dX0_worth_157 : decode cX0_worth 157 = .ok (.getfield 30, 3) := by decide +kernel
theorem dX0_worth_160 : decode cX0_worth 160 = .ok (.iload_n 2, 1) := by decide +kernel
theorem dX0_worth_161 : decode cX0_worth 161 = .ok (.iconst 1, 1) := by decide +kernel
theorem dX0_worth_162 : decode cX0_worth 162 = .ok (.isub, 1) := by decide +kernel
theorem dX0_worth_163 : decode cX0_worth 163 = .ok (.iload 4, 2) := by decide +kernel
theorem dX0_worth_165 : decode cX0_worth 165 = .ok (.iconst 1, 1) := by decide +kernel
theorem dX0_worth_166 : decode cX0_worth 166 = .ok (.if_icmp .ne 9, 3) := by decide +kernel
theorem dX0_worth_169 : decode cX0_worth 169 = .ok (.iload 5, 2) := by decide +kernel
theorem dX0_worth_171 : decode cX0_worth 171 = .ok (.ineg, 1) := by decide +kernel
theorem dX0_worth_172 : decode cX0_worth 172 = .ok (.goto 13, 3) := by decide +kernel
theorem dX0_worth_175 : decode cX0_worth 175 = .ok (.iload 5, 2) := by decide +kernel
theorem dX0_worth_177 : decode cX0_worth 177 = .ok (.ifCond .ne 7, 3) := by decide +kernel
theorem dX0_worth_180 : decode cX0_worth 180 = .ok (.iconst 1, 1) := by decide +kernel
theorem dX0_worth_181 : decode cX0_worth 181 = .ok (.goto 4, 3) := by decide +kernel
theorem dX0_worth_184 : decode cX0_worth 184 = .ok (.iconst 0, 1) := by decide +kernel
theorem dX0_worth_185 : decode cX0_worth 185 = .ok (.iastore, 1) := by decide +kernel
theorem dX0_worth_186 : decode cX0_worth 186 = .ok (.goto 38, 3) := by decide +kernel
theorem dX0_worth_189 : decode cX0_worth 189 = .ok (.iload_n 2, 1) := by decide +kernel
theorem dX0_worth_190 : decode cX0_worth 190 = .ok (.iconst 1, 1) := by decide +kernel
theorem dX0_worth_191 : decode cX0_worth 191 = .ok (.if_icmp .le 33, 3) := by decide +kernel
theorem dX0_worth_194 : decode cX0_worth 194 = .ok (.iinc 2 (-1), 3) := by decide +kernel
theorem dX0_worth_197 : decode cX0_worth 197 = .ok (.aload_n 0, 1) := by decide +kernel
theorem dX0_worth_198 : decode cX0_worth 198 = .ok (.getfield 30, 3) := by decide +kernel
theorem dX0_worth_201 : decode cX0_worth 201 = .ok (.iload_n 2, 1) := by decide +kernel
theorem dX0_worth_202 : decode cX0_worth 202 = .ok (.iconst 1, 1) := by decide +kernel
theorem dX0_worth_203 : decode cX0_worth 203 = .ok (.isub, 1) := by decide +kernel
theorem dX0_worth_204 : decode cX0_worth 204 = .ok (.iload 4, 2) := by decide +kernel
theorem dX0_worth_206 : decode cX0_worth 206 = .ok (.aload_n 0, 1) := by decide +kernel
theorem dX0_worth_207 : decode cX0_worth 207 = .ok (.getfield 30, 3) := by decide +kernel
theorem dX0_worth_210 : decode cX0_worth 210 = .ok (.iload_n 2, 1) := by decide +kernel
theorem dX0_worth_211 : decode cX0_worth 211 = .ok (.iconst 1, 1) := by decide +kernel
theorem dX0_worth_212 : decode cX0_worth 212 = .ok (.isub, 1) := by decide +kernel
theorem dX0_worth_213 : decode cX0_worth 213 = .ok (.iaload, 1) := by decide +kernel
theorem dX0_worth_214 : decode cX0_worth 214 = .ok (.aload_n 0, 1) := by decide +kernel
theorem dX0_worth_215 : decode cX0_worth 215 = .ok (.getfield 30, 3) := by decide +kernel
theorem dX0_worth_218 : decode cX0_worth 218 = .ok (.iload_n 2, 1) := by decide +kernel
theorem dX0_worth_219 : decode cX0_worth 219 = .ok (.iaload, 1) := by decide +kernel
theorem dX0_worth_220 : decode cX0_worth 220 = .ok (.invokestatic 62, 3) := by decide +kernel
theorem dX0_worth_223 : decode cX0_worth 223 = .ok (.iastore, 1) := by decide +kernel
theorem dX0_worth_224 : decode cX0_worth 224 = .ok (.iinc 3 1, 3) := by decide +kernel
theorem dX0_worth_227 : decode cX0_worth 227 = .ok (.goto (-197), 3) := by decide +kernel
theorem dX0_worth_230 : decode cX0_worth 230 = .ok (.aload_n 0, 1) := by decide +kernel
theorem dX0_worth_231 : decode cX0_worth 231 = .ok (.getfield 30, 3) := by decide +kernel
theorem dX0_worth_234 : decode cX0_worth 234 = .ok (.iconst 0, 1) := by decide +kernel
theorem dX0_worth_235 : decode cX0_worth 235 = .ok (.iaload, 1) := by decide +kernel
theorem dX0_worth_236 : decode cX0_worth 236 = .ok (.ireturn, 1) := by decide +kernel
theorem dX0_joined_0 : decode cX0_joined 0 = .ok (.iload_n 0, 1) := by decide +kernel
theorem dX0_joined_1 : decode cX0_joined 1 = .ok (.lookupswitch 117 #[(43, 109), (45, 113), (60, 87), (61, 98), (259, 59), (260, 73)], 59) := by decide +kernel
theorem dX0_joined_60 : decode cX0_joined 60 = .ok (.iload_n 1, 1) := by decide +kernel
theorem dX0_joined_61 : decode cX0_joined 61 = .ok (.ifCond .ne 7, 3) := by decide +kernel
theorem dX0_joined_64 : decode cX0_joined 64 = .ok (.iload_n 2, 1) := by decide +kernel
theorem dX0_joined_65 : decode cX0_joined 65 = .ok (.ifCond .eq 7, 3) := by decide +kernel
theorem dX0_joined_68 : decode cX0_joined 68 = .ok (.iconst 1, 1) := by decide +kernel
theorem dX0_joined_69 : decode cX0_joined 69 = .ok (.goto 4, 3) := by decide +kernel
theorem dX0_joined_72 : decode cX0_joined 72 = .ok (.iconst 0, 1) := by decide +kernel
theorem dX0_joined_73 : decode cX0_joined 73 = .ok (.ireturn, 1) := by decide +kernel
theorem dX0_joined_74 : decode cX0_joined 74 = .ok (.iload_n 1, 1) := by decide +kernel
theorem dX0_joined_75 : decode cX0_joined 75 = .ok (.ifCond .eq 11, 3) := by decide +kernel
theorem dX0_joined_78 : decode cX0_joined 78 = .ok (.iload_n 2, 1) := by decide +kernel
theorem dX0_joined_79 : decode cX0_joined 79 = .ok (.ifCond .eq 7, 3) := by decide +kernel
theorem dX0_joined_82 : decode cX0_joined 82 = .ok (.iconst 1, 1) := by decide +kernel
theorem dX0_joined_83 : decode cX0_joined 83 = .ok (.goto 4, 3) := by decide +kernel
theorem dX0_joined_86 : decode cX0_joined 86 = .ok (.iconst 0, 1) := by decide +kernel
theorem dX0_joined_87 : decode cX0_joined 87 = .ok (.ireturn, 1) := by decide +kernel
theorem dX0_joined_88 : decode cX0_joined 88 = .ok (.iload_n 1, 1) := by decide +kernel
theorem dX0_joined_89 : decode cX0_joined 89 = .ok (.iload_n 2, 1) := by decide +kernel
theorem dX0_joined_90 : decode cX0_joined 90 = .ok (.if_icmp .ge 7, 3) := by decide +kernel
theorem dX0_joined_93 : decode cX0_joined 93 = .ok (.iconst 1, 1) := by decide +kernel
theorem dX0_joined_94 : decode cX0_joined 94 = .ok (.goto 4, 3) := by decide +kernel
theorem dX0_joined_97 : decode cX0_joined 97 = .ok (.iconst 0, 1) := by decide +kernel
theorem dX0_joined_98 : decode cX0_joined 98 = .ok (.ireturn, 1) := by decide +kernel
theorem dX0_joined_99 : decode cX0_joined 99 = .ok (.iload_n 1, 1) := by decide +kernel
theorem dX0_joined_100 : decode cX0_joined 100 = .ok (.iload_n 2, 1) := by decide +kernel
theorem dX0_joined_101 : decode cX0_joined 101 = .ok (.if_icmp .ne 7, 3) := by decide +kernel
theorem dX0_joined_104 : decode cX0_joined 104 = .ok (.iconst 1, 1) := by decide +kernel
theorem dX0_joined_105 : decode cX0_joined 105 = .ok (.goto 4, 3) := by decide +kernel
theorem dX0_joined_108 : decode cX0_joined 108 = .ok (.iconst 0, 1) := by decide +kernel
theorem dX0_joined_109 : decode cX0_joined 109 = .ok (.ireturn, 1) := by decide +kernel
theorem dX0_joined_110 : decode cX0_joined 110 = .ok (.iload_n 1, 1) := by decide +kernel
theorem dX0_joined_111 : decode cX0_joined 111 = .ok (.iload_n 2, 1) := by decide +kernel
theorem dX0_joined_112 : decode cX0_joined 112 = .ok (.iadd, 1) := by decide +kernel
theorem dX0_joined_113 : decode cX0_joined 113 = .ok (.ireturn, 1) := by decide +kernel
theorem dX0_joined_114 : decode cX0_joined 114 = .ok (.iload_n 1, 1) := by decide +kernel
theorem dX0_joined_115 : decode cX0_joined 115 = .ok (.iload_n 2, 1) := by decide +kernel
theorem dX0_joined_116 : decode cX0_joined 116 = .ok (.isub, 1) := by decide +kernel
theorem dX0_joined_117 : decode cX0_joined 117 = .ok (.ireturn, 1) := by decide +kernel
theorem dX0_joined_118 : decode cX0_joined 118 = .ok (.iload_n 1, 1) := by decide +kernel
theorem dX0_joined_119 : decode cX0_joined 119 = .ok (.iload_n 2, 1) := by decide +kernel
theorem dX0_joined_120 : decode cX0_joined 120 = .ok (.imul, 1) := by decide +kernel
theorem dX0_joined_121 : decode cX0_joined 121 = .ok (.ireturn, 1) := by decide +kernel
theorem dX1_init_0 : decode cX1_init 0 = .ok (.aload_n 0, 1) := by decide +kernel
theorem dX1_init_1 : decode cX1_init 1 = .ok (.invokespecial 3, 3) := by decide +kernel
theorem dX1_init_4 : decode cX1_init 4 = .ok (.aload_n 0, 1) := by decide +kernel
theorem dX1_init_5 : decode cX1_init 5 = .ok (.bipush 6, 2) := by decide +kernel
theorem dX1_init_7 : decode cX1_init 7 = .ok (.iconst 5, 1) := by decide +kernel
theorem dX1_init_8 : decode cX1_init 8 = .ok (.multianewarray 9 2, 4) := by decide +kernel
theorem dX1_init_12 : decode cX1_init 12 = .ok (.putfield 11, 3) := by decide +kernel
theorem dX1_init_15 : decode cX1_init 15 = .ok (.aload_n 0, 1) := by decide +kernel
theorem dX1_init_16 : decode cX1_init 16 = .ok (.bipush 6, 2) := by decide +kernel
theorem dX1_init_18 : decode cX1_init 18 = .ok (.newarray .int, 2) := by decide +kernel
theorem dX1_init_20 : decode cX1_init 20 = .ok (.putfield 16, 3) := by decide +kernel
theorem dX1_init_23 : decode cX1_init 23 = .ok (.aload_n 0, 1) := by decide +kernel
theorem dX1_init_24 : decode cX1_init 24 = .ok (.bipush 6, 2) := by decide +kernel
theorem dX1_init_26 : decode cX1_init 26 = .ok (.newarray .int, 2) := by decide +kernel
theorem dX1_init_28 : decode cX1_init 28 = .ok (.putfield 20, 3) := by decide +kernel
theorem dX1_init_31 : decode cX1_init 31 = .ok (.aload_n 0, 1) := by decide +kernel
theorem dX1_init_32 : decode cX1_init 32 = .ok (.iconst 0, 1) := by decide +kernel
theorem dX1_init_33 : decode cX1_init 33 = .ok (.putfield 23, 3) := by decide +kernel
theorem dX1_init_36 : decode cX1_init 36 = .ok (.aload_n 0, 1) := by decide +kernel
theorem dX1_init_37 : decode cX1_init 37 = .ok (.iconst 0, 1) := by decide +kernel
theorem dX1_init_38 : decode cX1_init 38 = .ok (.putfield 27, 3) := by decide +kernel
theorem dX1_init_41 : decode cX1_init 41 = .ok (.aload_n 0, 1) := by decide +kernel
theorem dX1_init_42 : decode cX1_init 42 = .ok (.iconst 0, 1) := by decide +kernel
theorem dX1_init_43 : decode cX1_init 43 = .ok (.putfield 30, 3) := by decide +kernel
theorem dX1_init_46 : decode cX1_init 46 = .ok (.aload_n 0, 1) := by decide +kernel
theorem dX1_init_47 : decode cX1_init 47 = .ok (.aload_n 1, 1) := by decide +kernel
theorem dX1_init_48 : decode cX1_init 48 = .ok (.putfield 33, 3) := by decide +kernel
theorem dX1_init_51 : decode cX1_init 51 = .ok (.return_, 1) := by decide +kernel
theorem dX1_begin_0 : decode cX1_begin 0 = .ok (.iconst 0, 1) := by decide +kernel
theorem dX1_begin_1 : decode cX1_begin 1 = .ok (.istore 5, 2) := by decide +kernel
theorem dX1_begin_3 : decode cX1_begin 3 = .ok (.iload 5, 2) := by decide +kernel
theorem dX1_begin_5 : decode cX1_begin 5 = .ok (.iconst 5, 1) := by decide +kernel
theorem dX1_begin_6 : decode cX1_begin 6 = .ok (.if_icmp .ge 23, 3) := by decide +kernel
theorem dX1_begin_9 : decode cX1_begin 9 = .ok (.aload_n 0, 1) := by decide +kernel
theorem dX1_begin_10 : decode cX1_begin 10 = .ok (.getfield 11, 3) := by decide +kernel
theorem dX1_begin_13 : decode cX1_begin 13 = .ok (.iconst 0, 1) := by decide +kernel
theorem dX1_begin_14 : decode cX1_begin 14 = .ok (.aaload, 1) := by decide +kernel
theorem dX1_begin_15 : decode cX1_begin 15 = .ok (.iload 5, 2) := by decide +kernel
theorem dX1_begin_17 : decode cX1_begin 17 = .ok (.aload_n 1, 1) := by decide +kernel
theorem dX1_begin_18 : decode cX1_begin 18 = .ok (.iload 5, 2) := by decide +kernel
theorem dX1_begin_20 : decode cX1_begin 20 = .ok (.iaload, 1) := by decide +kernel
theorem dX1_begin_21 : decode cX1_begin 21 = .ok (.i2l, 1) := by decide +kernel
theorem dX1_begin_22 : decode cX1_begin 22 = .ok (.lastore, 1) := by decide +kernel
theorem dX1_begin_23 : decode cX1_begin 23 = .ok (.iinc 5 1, 3) := by decide +kernel
theorem dX1_begin_26 : decode cX1_begin 26 = .ok (.goto (-23), 3) := by decide +kernel
theorem dX1_begin_29 : decode cX1_begin 29 = .ok (.aload_n 0, 1) := by decide +kernel
theorem dX1_begin_30 : decode cX1_begin 30 = .ok (.getfield 16, 3) := by decide +kernel
theorem dX1_begin_33 : decode cX1_begin 33 = .ok (.iconst 0, 1) := by decide +kernel
theorem dX1_begin_34 : decode cX1_begin 34 = .ok (.iload_n 2, 1) := by decide +kernel
theorem dX1_begin_35 : decode cX1_begin 35 = .ok (.iastore, 1) := by decide +kernel
theorem dX1_begin_36 : decode cX1_begin 36 = .ok (.aload_n 0, 1) := by decide +kernel
theorem dX1_begin_37 : decode cX1_begin 37 = .ok (.getfield 20, 3) := by decide +kernel
theorem dX1_begin_40 : decode cX1_begin 40 = .ok (.iconst 0, 1) := by decide +kernel
theorem dX1_begin_41 : decode cX1_begin 41 = .ok (.iconst 0, 1) := by decide +kernel
theorem dX1_begin_42 : decode cX1_begin 42 = .ok (.iastore, 1) := by decide +kernel
theorem dX1_begin_43 : decode cX1_begin 43 = .ok (.aload_n 0, 1) := by decide +kernel
theorem dX1_begin_44 : decode cX1_begin 44 = .ok (.iload_n 3, 1) := by decide +kernel
theorem dX1_begin_45 : decode cX1_begin 45 = .ok (.putfield 23, 3) := by decide +kernel
theorem dX1_begin_48 : decode cX1_begin 48 = .ok (.aload_n 0, 1) := by decide +kernel
theorem dX1_begin_49 : decode cX1_begin 49 = .ok (.iload 4, 2) := by decide +kernel
theorem dX1_begin_51 : decode cX1_begin 51 = .ok (.putfield 27, 3) := by decide +kernel
theorem dX1_begin_54 : decode cX1_begin 54 = .ok (.aload_n 0, 1) := by decide +kernel
theorem dX1_begin_55 : decode cX1_begin 55 = .ok (.iconst 0, 1) := by decide +kernel
theorem dX1_begin_56 : decode cX1_begin 56 = .ok (.putfield 30, 3) := by decide +kernel
theorem dX1_begin_59 : decode cX1_begin 59 = .ok (.return_, 1) := by decide +kernel
set_option maxRecDepth 100000 in
theorem ggX1_follow_X1_pass : GoodIn wsX1_follow wsX1_pass := goodIn_r _ [5, 6, 7, 8, 9, 10, 11, 12, 13, 14, 15, 16, 17, 18, 19, 20, 21, 22, 23, 24, 25, 26, 27, 28, 29, 30, 31, 32, 33, 34, 76, 77, 78, 79, 80, 81, 82, 83, 84, 85, 86, 87, 88, 89, 90] rfl (by decide +kernel)
set_option maxRecDepth 100000 in
theorem gX1_follow_X1_pass : GoodIn wsX1_follow (wsV RX1 37 RX1 yX1_pass wsX1_pass) := goodIn_app (goodIn_of _ (by decide +kernel)) ggX1_follow_X1_pass
set_option maxRecDepth 100000 in
theorem ggX1_follow_X1_wish : GoodIn wsX1_follow wsX1_wish := goodIn_r _ [38, 39, 40, 6, 41, 42, 43, 4, 44, 9, 45, 46, 47, 48, 11, 49, 50, 51, 52, 7, 53, 20, 21, 22, 54, 55, 56, 57, 24, 25, 58, 59, 60, 61, 62, 63, 64, 65, 66, 76, 77, 78, 79, 80, 81, 82] rfl (by decide +kernel)
set_option maxRecDepth 100000 in
theorem gX1_follow_X1_wish : GoodIn wsX1_follow (wsV RX1 41 RX1 yX1_wish wsX1_wish) := goodIn_app (goodIn_of _ (by decide +kernel)) ggX1_follow_X1_wish
set_option maxRecDepth 100000 in
theorem ggX1_follow_X1_settle : GoodIn wsX1_follow wsX1_settle := goodIn_r _ [70, 9, 10, 71, 72, 73, 74, 24, 21, 25, 75, 20, 22, 76, 77, 78, 79, 80, 81, 82] rfl (by decide +kernel)
set_option maxRecDepth 100000 in
theorem gX1_follow_X1_settle : GoodIn wsX1_follow (wsV RX1 45 RX1 yX1_settle wsX1_settle) := goodIn_app (goodIn_of _ (by decide +kernel)) ggX1_follow_X1_settle
theorem dX1_follow_0 : decode cX1_follow 0 = .ok (.iconst 0, 1) := by decide +kernel
theorem dX1_follow_1 : decode cX1_follow 1 = .ok (.istore_n 3, 1) := by decide +kernel
theorem dX1_follow_2 : decode cX1_follow 2 = .ok (.iload_n 3, 1) := by decide +kernel
theorem dX1_follow_3 : decode cX1_follow 3 = .ok (.iload_n 1, 1) := by decide +kernel
theorem dX1_follow_4 : decode cX1_follow 4 = .ok (.if_icmp .ge 34, 3) := by decide +kernel
theorem dX1_follow_7 : decode cX1_follow 7 = .ok (.iload_n 3, 1) := by decide +kernel
theorem dX1_follow_8 : decode cX1_follow 8 = .ok (.iconst 5, 1) := by decide +kernel
theorem dX1_follow_9 : decode cX1_follow 9 = .ok (.if_icmp .ge 29, 3) := by decide +kernel
theorem dX1_follow_12 : decode cX1_follow 12 = .ok (.aload_n 0, 1) := by decide +kernel
theorem dX1_follow_13 : decode cX1_follow 13 = .ok (.iload_n 3, 1) := by decide +kernel
theorem dX1_follow_14 : decode cX1_follow 14 = .ok (.iload_n 2, 1) := by decide +kernel
theorem dX1_follow_15 : decode cX1_follow 15 = .ok (.iload_n 3, 1) := by decide +kernel
theorem dX1_follow_16 : decode cX1_follow 16 = .ok (.ishr, 1) := by decide +kernel
theorem dX1_follow_17 : decode cX1_follow 17 = .ok (.iconst 1, 1) := by decide +kernel
theorem dX1_follow_18 : decode cX1_follow 18 = .ok (.iand, 1) := by decide +kernel
theorem dX1_follow_19 : decode cX1_follow 19 = .ok (.invokevirtual 37, 3) := by decide +kernel
theorem dX1_follow_22 : decode cX1_follow 22 = .ok (.aload_n 0, 1) := by decide +kernel
theorem dX1_follow_23 : decode cX1_follow 23 = .ok (.iload_n 3, 1) := by decide +kernel
theorem dX1_follow_24 : decode cX1_follow 24 = .ok (.aload_n 0, 1) := by decide +kernel
theorem dX1_follow_25 : decode cX1_follow 25 = .ok (.iload_n 3, 1) := by decide +kernel
theorem dX1_follow_26 : decode cX1_follow 26 = .ok (.invokevirtual 41, 3) := by decide +kernel
theorem dX1_follow_29 : decode cX1_follow 29 = .ok (.invokevirtual 45, 3) := by decide +kernel
theorem dX1_follow_32 : decode cX1_follow 32 = .ok (.iinc 3 1, 3) := by decide +kernel
theorem dX1_follow_35 : decode cX1_follow 35 = .ok (.goto (-33), 3) := by decide +kernel
theorem dX1_follow_38 : decode cX1_follow 38 = .ok (.return_, 1) := by decide +kernel
set_option maxRecDepth 100000 in
theorem ggX1_weightsAt_X1_bounded : GoodIn wsX1_weightsAt wsX1_bounded := goodIn_r _ [5, 6, 7, 8, 9, 10, 11, 12] rfl (by decide +kernel)
set_option maxRecDepth 100000 in
theorem gX1_weightsAt_X1_bounded : GoodIn wsX1_weightsAt (va_wsS RX1 48 yX1_bounded wsX1_bounded) := goodIn_app (goodIn_of _ (by decide +kernel)) ggX1_weightsAt_X1_bounded
theorem dX1_weightsAt_0 : decode cX1_weightsAt 0 = .ok (.aload_n 0, 1) := by decide +kernel
theorem dX1_weightsAt_1 : decode cX1_weightsAt 1 = .ok (.getfield 11, 3) := by decide +kernel
theorem dX1_weightsAt_4 : decode cX1_weightsAt 4 = .ok (.iload_n 1, 1) := by decide +kernel
theorem dX1_weightsAt_5 : decode cX1_weightsAt 5 = .ok (.invokestatic 48, 3) := by decide +kernel
theorem dX1_weightsAt_8 : decode cX1_weightsAt 8 = .ok (.aaload, 1) := by decide +kernel
theorem dX1_weightsAt_9 : decode cX1_weightsAt 9 = .ok (.areturn, 1) := by decide +kernel
set_option maxRecDepth 100000 in
theorem ggX1_classThen_X1_bounded : GoodIn wsX1_classThen wsX1_bounded := goodIn_r _ [5, 6, 7, 8, 9, 10, 11, 12] rfl (by decide +kernel)
set_option maxRecDepth 100000 in
theorem gX1_classThen_X1_bounded : GoodIn wsX1_classThen (va_wsS RX1 48 yX1_bounded wsX1_bounded) := goodIn_app (goodIn_of _ (by decide +kernel)) ggX1_classThen_X1_bounded
theorem dX1_classThen_0 : decode cX1_classThen 0 = .ok (.aload_n 0, 1) := by decide +kernel
theorem dX1_classThen_1 : decode cX1_classThen 1 = .ok (.getfield 16, 3) := by decide +kernel
theorem dX1_classThen_4 : decode cX1_classThen 4 = .ok (.iload_n 1, 1) := by decide +kernel
theorem dX1_classThen_5 : decode cX1_classThen 5 = .ok (.invokestatic 48, 3) := by decide +kernel
theorem dX1_classThen_8 : decode cX1_classThen 8 = .ok (.iaload, 1) := by decide +kernel
theorem dX1_classThen_9 : decode cX1_classThen 9 = .ok (.ireturn, 1) := by decide +kernel
set_option maxRecDepth 100000 in
theorem ggX1_movedThen_X1_bounded : GoodIn wsX1_movedThen wsX1_bounded := goodIn_r _ [5, 6, 7, 8, 9, 10, 11, 12] rfl (by decide +kernel)
set_option maxRecDepth 100000 in
theorem gX1_movedThen_X1_bounded : GoodIn wsX1_movedThen (va_wsS RX1 48 yX1_bounded wsX1_bounded) := goodIn_app (goodIn_of _ (by decide +kernel)) ggX1_movedThen_X1_bounded
theorem dX1_movedThen_0 : decode cX1_movedThen 0 = .ok (.aload_n 0, 1) := by decide +kernel
theorem dX1_movedThen_1 : decode cX1_movedThen 1 = .ok (.getfield 20, 3) := by decide +kernel
theorem dX1_movedThen_4 : decode cX1_movedThen 4 = .ok (.iload_n 1, 1) := by decide +kernel
theorem dX1_movedThen_5 : decode cX1_movedThen 5 = .ok (.invokestatic 48, 3) := by decide +kernel
theorem dX1_movedThen_8 : decode cX1_movedThen 8 = .ok (.iaload, 1) := by decide +kernel
theorem dX1_movedThen_9 : decode cX1_movedThen 9 = .ok (.ireturn, 1) := by decide +kernel
theorem dX1_bounded_0 : decode cX1_bounded 0 = .ok (.iconst 0, 1) := by decide +kernel
theorem dX1_bounded_1 : decode cX1_bounded 1 = .ok (.iconst 5, 1) := by decide +kernel
theorem dX1_bounded_2 : decode cX1_bounded 2 = .ok (.iload_n 0, 1) := by decide +kernel
theorem dX1_bounded_3 : decode cX1_bounded 3 = .ok (.invokestatic 51, 3) := by decide +kernel
theorem dX1_bounded_6 : decode cX1_bounded 6 = .ok (.invokestatic 57, 3) := by decide +kernel
theorem dX1_bounded_9 : decode cX1_bounded 9 = .ok (.ireturn, 1) := by decide +kernel
set_option maxRecDepth 100000 in
theorem ggX1_from_X1_bounded : GoodIn wsX1_from wsX1_bounded := goodIn_r _ [9, 10, 11, 4, 12, 2, 3, 5] rfl (by decide +kernel)
set_option maxRecDepth 100000 in
theorem gX1_from_X1_bounded : GoodIn wsX1_from (va_wsS RX1 48 yX1_bounded wsX1_bounded) := goodIn_app (goodIn_of _ (by decide +kernel)) ggX1_from_X1_bounded
theorem dX1_from_0 : decode cX1_from 0 = .ok (.aload_n 0, 1) := by decide +kernel
theorem dX1_from_1 : decode cX1_from 1 = .ok (.getfield 11, 3) := by decide +kernel
theorem dX1_from_4 : decode cX1_from 4 = .ok (.iload_n 2, 1) := by decide +kernel
theorem dX1_from_5 : decode cX1_from 5 = .ok (.invokestatic 48, 3) := by decide +kernel
theorem dX1_from_8 : decode cX1_from 8 = .ok (.aaload, 1) := by decide +kernel
theorem dX1_from_9 : decode cX1_from 9 = .ok (.astore_n 3, 1) := by decide +kernel
theorem dX1_from_10 : decode cX1_from 10 = .ok (.lconst 0, 1) := by decide +kernel
theorem dX1_from_11 : decode cX1_from 11 = .ok (.lstore 4, 2) := by decide +kernel
theorem dX1_from_13 : decode cX1_from 13 = .ok (.iconst 0, 1) := by decide +kernel
theorem dX1_from_14 : decode cX1_from 14 = .ok (.iload_n 1, 1) := by decide +kernel
theorem dX1_from_15 : decode cX1_from 15 = .ok (.invokestatic 57, 3) := by decide +kernel
theorem dX1_from_18 : decode cX1_from 18 = .ok (.istore 6, 2) := by decide +kernel
theorem dX1_from_20 : decode cX1_from 20 = .ok (.iload 6, 2) := by decide +kernel
theorem dX1_from_22 : decode cX1_from 22 = .ok (.iconst 5, 1) := by decide +kernel
theorem dX1_from_23 : decode cX1_from 23 = .ok (.if_icmp .ge 18, 3) := by decide +kernel
theorem dX1_from_26 : decode cX1_from 26 = .ok (.lload 4, 2) := by decide +kernel
theorem dX1_from_28 : decode cX1_from 28 = .ok (.aload_n 3, 1) := by decide +kernel
theorem dX1_from_29 : decode cX1_from 29 = .ok (.iload 6, 2) := by decide +kernel
theorem dX1_from_31 : decode cX1_from 31 = .ok (.laload, 1) := by decide +kernel
theorem dX1_from_32 : decode cX1_from 32 = .ok (.ladd, 1) := by decide +kernel
theorem dX1_from_33 : decode cX1_from 33 = .ok (.lstore 4, 2) := by decide +kernel
theorem dX1_from_35 : decode cX1_from 35 = .ok (.iinc 6 1, 3) := by decide +kernel
theorem dX1_from_38 : decode cX1_from 38 = .ok (.goto (-18), 3) := by decide +kernel
theorem dX1_from_41 : decode cX1_from 41 = .ok (.lload 4, 2) := by decide +kernel
theorem dX1_from_43 : decode cX1_from 43 = .ok (.lreturn, 1) := by decide +kernel
set_option maxRecDepth 100000 in
theorem ggX1_together_X1_from : GoodIn wsX1_together wsX1_from := goodIn_r _ [5, 6, 7, 8, 9, 10, 11, 12, 4, 13, 14, 15, 16, 17, 18, 19, 20, 21, 22, 23] rfl (by decide +kernel)
set_option maxRecDepth 100000 in
theorem gX1_together_X1_from : GoodIn wsX1_together (wsV RX1 60 RX1 yX1_from wsX1_from) := goodIn_app (goodIn_of _ (by decide +kernel)) ggX1_together_X1_from
theorem dX1_together_0 : decode cX1_together 0 = .ok (.aload_n 0, 1) := by decide +kernel
theorem dX1_together_1 : decode cX1_together 1 = .ok (.iconst 0, 1) := by decide +kernel
theorem dX1_together_2 : decode cX1_together 2 = .ok (.iload_n 1, 1) := by decide +kernel
theorem dX1_together_3 : decode cX1_together 3 = .ok (.invokevirtual 60, 3) := by decide +kernel
theorem dX1_together_6 : decode cX1_together 6 = .ok (.lreturn, 1) := by decide +kernel
set_option maxRecDepth 100000 in
theorem ggX1_fit_X1_classThen : GoodIn wsX1_fit wsX1_classThen := goodIn_r _ [5, 6, 7, 8, 4, 9, 10, 11, 12, 13, 14, 15, 16, 22, 23, 24, 25, 26, 27, 28] rfl (by decide +kernel)
set_option maxRecDepth 100000 in
theorem gX1_fit_X1_classThen : GoodIn wsX1_fit (wsV RX1 64 RX1 yX1_classThen wsX1_classThen) := goodIn_app (goodIn_of _ (by decide +kernel)) ggX1_fit_X1_classThen
set_option maxRecDepth 100000 in
theorem ggX1_fit_X1_from : GoodIn wsX1_fit wsX1_from := goodIn_r _ [20, 21, 14, 15, 12, 16, 7, 8, 4, 9, 10, 11, 13, 22, 23, 24, 25, 26, 27, 28] rfl (by decide +kernel)
set_option maxRecDepth 100000 in
theorem gX1_fit_X1_from : GoodIn wsX1_fit (wsV RX1 60 RX1 yX1_from wsX1_from) := goodIn_app (goodIn_of _ (by decide +kernel)) ggX1_fit_X1_from
theorem dX1_fit_0 : decode cX1_fit 0 = .ok (.aload_n 0, 1) := by decide +kernel
theorem dX1_fit_1 : decode cX1_fit 1 = .ok (.aload_n 0, 1) := by decide +kernel
theorem dX1_fit_2 : decode cX1_fit 2 = .ok (.iload_n 1, 1) := by decide +kernel
theorem dX1_fit_3 : decode cX1_fit 3 = .ok (.invokevirtual 64, 3) := by decide +kernel
theorem dX1_fit_6 : decode cX1_fit 6 = .ok (.iload_n 1, 1) := by decide +kernel
theorem dX1_fit_7 : decode cX1_fit 7 = .ok (.invokevirtual 60, 3) := by decide +kernel
theorem dX1_fit_10 : decode cX1_fit 10 = .ok (.lreturn, 1) := by decide +kernel
set_option maxRecDepth 100000 in
theorem ggX1_share_X1_together : GoodIn wsX1_share wsX1_together := goodIn_r _ [6, 7, 8, 9, 5, 10, 11, 12, 13, 14, 15, 16, 17, 18, 19, 20, 21, 31, 32, 33, 34, 35, 36, 37] rfl (by decide +kernel)
set_option maxRecDepth 100000 in
theorem gX1_share_X1_together : GoodIn wsX1_share (wsV RX1 67 RX1 yX1_together wsX1_together) := goodIn_app (goodIn_of _ (by decide +kernel)) ggX1_share_X1_together
set_option maxRecDepth 100000 in
theorem ggX1_share_X1_fit : GoodIn wsX1_share wsX1_fit := goodIn_r _ [25, 26, 27, 28, 5, 29, 30, 16, 17, 18, 19, 20, 14, 21, 12, 13, 15, 7, 8, 9, 10, 11, 31, 32, 33, 34, 35, 36, 37] rfl (by decide +kernel)
set_option maxRecDepth 100000 in
theorem gX1_share_X1_fit : GoodIn wsX1_share (wsV RX1 71 RX1 yX1_fit wsX1_fit) := goodIn_app (goodIn_of _ (by decide +kernel)) ggX1_share_X1_fit
theorem dX1_share_0 : decode cX1_share 0 = .ok (.aload_n 0, 1) := by decide +kernel
theorem dX1_share_1 : decode cX1_share 1 = .ok (.iload_n 1, 1) := by decide +kernel
theorem dX1_share_2 : decode cX1_share 2 = .ok (.invokevirtual 67, 3) := by decide +kernel
theorem dX1_share_5 : decode cX1_share 5 = .ok (.lstore_n 2, 1) := by decide +kernel
theorem dX1_share_6 : decode cX1_share 6 = .ok (.lload_n 2, 1) := by decide +kernel
theorem dX1_share_7 : decode cX1_share 7 = .ok (.lconst 0, 1) := by decide +kernel
theorem dX1_share_8 : decode cX1_share 8 = .ok (.lcmp, 1) := by decide +kernel
theorem dX1_share_9 : decode cX1_share 9 = .ok (.ifCond .le 17, 3) := by decide +kernel
theorem dX1_share_12 : decode cX1_share 12 = .ok (.aload_n 0, 1) := by decide +kernel
theorem dX1_share_13 : decode cX1_share 13 = .ok (.iload_n 1, 1) := by decide +kernel
theorem dX1_share_14 : decode cX1_share 14 = .ok (.invokevirtual 71, 3) := by decide +kernel
theorem dX1_share_17 : decode cX1_share 17 = .ok (.ldc2_w 74, 3) := by decide +kernel
theorem dX1_share_20 : decode cX1_share 20 = .ok (.lmul, 1) := by decide +kernel
theorem dX1_share_21 : decode cX1_share 21 = .ok (.lload_n 2, 1) := by decide +kernel
theorem dX1_share_22 : decode cX1_share 22 = .ok (.ldiv, 1) := by decide +kernel
theorem dX1_share_23 : decode cX1_share 23 = .ok (.goto 4, 3) := by decide +kernel
theorem dX1_share_26 : decode cX1_share 26 = .ok (.lconst 0, 1) := by decide +kernel
theorem dX1_share_27 : decode cX1_share 27 = .ok (.lreturn, 1) := by decide +kernel
set_option maxRecDepth 100000 in
theorem ggX1_pass_X0_asks : GoodIn wsX1_pass wsX0_asks := goodIn_r _ [10, 11, 12, 13, 14, 15, 16, 17, 18, 19, 20, 21, 22, 23, 8, 24, 25, 26, 27, 28, 29, 37, 38, 39, 40, 41, 42, 43, 44] rfl (by decide +kernel)
set_option maxRecDepth 100000 in
theorem gX1_pass_X0_asks_n76 : GoodIn wsX1_pass (wsX0_asks) := ggX1_pass_X0_asks
theorem dX1_pass_0 : decode cX1_pass 0 = .ok (.iload_n 1, 1) := by decide +kernel
theorem dX1_pass_1 : decode cX1_pass 1 = .ok (.ifCond .lt 8, 3) := by decide +kernel
theorem dX1_pass_4 : decode cX1_pass 4 = .ok (.iload_n 1, 1) := by decide +kernel
theorem dX1_pass_5 : decode cX1_pass 5 = .ok (.iconst 5, 1) := by decide +kernel
theorem dX1_pass_6 : decode cX1_pass 6 = .ok (.if_icmp .lt 4, 3) := by decide +kernel
theorem dX1_pass_9 : decode cX1_pass 9 = .ok (.return_, 1) := by decide +kernel
theorem dX1_pass_10 : decode cX1_pass 10 = .ok (.aload_n 0, 1) := by decide +kernel
theorem dX1_pass_11 : decode cX1_pass 11 = .ok (.aload_n 0, 1) := by decide +kernel
theorem dX1_pass_12 : decode cX1_pass 12 = .ok (.getfield 30, 3) := by decide +kernel
theorem dX1_pass_15 : decode cX1_pass 15 = .ok (.iconst 1, 1) := by decide +kernel
theorem dX1_pass_16 : decode cX1_pass 16 = .ok (.iload_n 1, 1) := by decide +kernel
theorem dX1_pass_17 : decode cX1_pass 17 = .ok (.ishl, 1) := by decide +kernel
theorem dX1_pass_18 : decode cX1_pass 18 = .ok (.iconst (-1), 1) := by decide +kernel
theorem dX1_pass_19 : decode cX1_pass 19 = .ok (.ixor, 1) := by decide +kernel
theorem dX1_pass_20 : decode cX1_pass 20 = .ok (.iand, 1) := by decide +kernel
theorem dX1_pass_21 : decode cX1_pass 21 = .ok (.iload_n 2, 1) := by decide +kernel
theorem dX1_pass_22 : decode cX1_pass 22 = .ok (.iload_n 1, 1) := by decide +kernel
theorem dX1_pass_23 : decode cX1_pass 23 = .ok (.ishl, 1) := by decide +kernel
theorem dX1_pass_24 : decode cX1_pass 24 = .ok (.ior, 1) := by decide +kernel
theorem dX1_pass_25 : decode cX1_pass 25 = .ok (.putfield 30, 3) := by decide +kernel
theorem dX1_pass_28 : decode cX1_pass 28 = .ok (.aload_n 0, 1) := by decide +kernel
theorem dX1_pass_29 : decode cX1_pass 29 = .ok (.getfield 11, 3) := by decide +kernel
theorem dX1_pass_32 : decode cX1_pass 32 = .ok (.iload_n 1, 1) := by decide +kernel
theorem dX1_pass_33 : decode cX1_pass 33 = .ok (.aaload, 1) := by decide +kernel
theorem dX1_pass_34 : decode cX1_pass 34 = .ok (.astore_n 3, 1) := by decide +kernel
theorem dX1_pass_35 : decode cX1_pass 35 = .ok (.aload_n 0, 1) := by decide +kernel
theorem dX1_pass_36 : decode cX1_pass 36 = .ok (.getfield 11, 3) := by decide +kernel
theorem dX1_pass_39 : decode cX1_pass 39 = .ok (.iload_n 1, 1) := by decide +kernel
theorem dX1_pass_40 : decode cX1_pass 40 = .ok (.iconst 1, 1) := by decide +kernel
theorem dX1_pass_41 : decode cX1_pass 41 = .ok (.iadd, 1) := by decide +kernel
theorem dX1_pass_42 : decode cX1_pass 42 = .ok (.aaload, 1) := by decide +kernel
theorem dX1_pass_43 : decode cX1_pass 43 = .ok (.astore 4, 2) := by decide +kernel
theorem dX1_pass_45 : decode cX1_pass 45 = .ok (.lconst 0, 1) := by decide +kernel
theorem dX1_pass_46 : decode cX1_pass 46 = .ok (.lstore 5, 2) := by decide +kernel
theorem dX1_pass_48 : decode cX1_pass 48 = .ok (.iconst 0, 1) := by decide +kernel
theorem dX1_pass_49 : decode cX1_pass 49 = .ok (.istore 7, 2) := by decide +kernel
theorem dX1_pass_51 : decode cX1_pass 51 = .ok (.iload 7, 2) := by decide +kernel
theorem dX1_pass_53 : decode cX1_pass 53 = .ok (.iconst 5, 1) := by decide +kernel
theorem dX1_pass_54 : decode cX1_pass 54 = .ok (.if_icmp .ge 106, 3) := by decide +kernel
theorem dX1_pass_57 : decode cX1_pass 57 = .ok (.aload_n 0, 1) := by decide +kernel
theorem dX1_pass_58 : decode cX1_pass 58 = .ok (.getfield 33, 3) := by decide +kernel
theorem dX1_pass_61 : decode cX1_pass 61 = .ok (.iconst 0, 1) := by decide +kernel
theorem dX1_pass_62 : decode cX1_pass 62 = .ok (.iload 7, 2) := by decide +kernel
theorem dX1_pass_64 : decode cX1_pass 64 = .ok (.aload_n 0, 1) := by decide +kernel
theorem dX1_pass_65 : decode cX1_pass 65 = .ok (.getfield 16, 3) := by decide +kernel
theorem dX1_pass_68 : decode cX1_pass 68 = .ok (.iload_n 1, 1) := by decide +kernel
theorem dX1_pass_69 : decode cX1_pass 69 = .ok (.iaload, 1) := by decide +kernel
theorem dX1_pass_70 : decode cX1_pass 70 = .ok (.iload_n 1, 1) := by decide +kernel
theorem dX1_pass_71 : decode cX1_pass 71 = .ok (.aload_n 0, 1) := by decide +kernel
theorem dX1_pass_72 : decode cX1_pass 72 = .ok (.getfield 20, 3) := by decide +kernel
theorem dX1_pass_75 : decode cX1_pass 75 = .ok (.iload_n 1, 1) := by decide +kernel
theorem dX1_pass_76 : decode cX1_pass 76 = .ok (.iaload, 1) := by decide +kernel
theorem dX1_pass_77 : decode cX1_pass 77 = .ok (.invokevirtual 76, 3) := by decide +kernel
theorem dX1_pass_80 : decode cX1_pass 80 = .ok (.i2l, 1) := by decide +kernel
theorem dX1_pass_81 : decode cX1_pass 81 = .ok (.lstore 8, 2) := by decide +kernel
theorem dX1_pass_83 : decode cX1_pass 83 = .ok (.aload_n 0, 1) := by decide +kernel
theorem dX1_pass_84 : decode cX1_pass 84 = .ok (.getfield 33, 3) := by decide +kernel
theorem dX1_pass_87 : decode cX1_pass 87 = .ok (.iconst 1, 1) := by decide +kernel
theorem dX1_pass_88 : decode cX1_pass 88 = .ok (.iload 7, 2) := by decide +kernel
theorem dX1_pass_90 : decode cX1_pass 90 = .ok (.aload_n 0, 1) := by decide +kernel
theorem dX1_pass_91 : decode cX1_pass 91 = .ok (.getfield 16, 3) := by decide +kernel
theorem dX1_pass_94 : decode cX1_pass 94 = .ok (.iload_n 1, 1) := by decide +kernel
theorem dX1_pass_95 : decode cX1_pass 95 = .ok (.iaload, 1) := by decide +kernel
theorem dX1_pass_96 : decode cX1_pass 96 = .ok (.iload_n 1, 1) := by decide +kernel
theorem dX1_pass_97 : decode cX1_pass 97 = .ok (.aload_n 0, 1) := by decide +kernel
theorem dX1_pass_98 : decode cX1_pass 98 = .ok (.getfield 20, 3) := by decide +kernel
theorem dX1_pass_101 : decode cX1_pass 101 = .ok (.iload_n 1, 1) := by decide +kernel
theorem dX1_pass_102 : decode cX1_pass 102 = .ok (.iaload, 1) := by decide +kernel
theorem dX1_pass_103 : decode cX1_pass 103 = .ok (.invokevirtual 76, 3) := by decide +kernel
theorem dX1_pass_106 : decode cX1_pass 106 = .ok (.i2l, 1) := by decide +kernel
theorem dX1_pass_107 : decode cX1_pass 107 = .ok (.lstore 10, 2) := by decide +kernel
theorem dX1_pass_109 : decode cX1_pass 109 = .ok (.aload 4, 2) := by decide +kernel
theorem dX1_pass_111 : decode cX1_pass 111 = .ok (.iload 7, 2) := by decide +kernel
theorem dX1_pass_113 : decode cX1_pass 113 = .ok (.aload_n 3, 1) := by decide +kernel
theorem dX1_pass_114 : decode cX1_pass 114 = .ok (.iload 7, 2) := by decide +kernel
theorem dX1_pass_116 : decode cX1_pass 116 = .ok (.laload, 1) := by decide +kernel
theorem dX1_pass_117 : decode cX1_pass 117 = .ok (.ldc2_w 82, 3) := by decide +kernel
theorem dX1_pass_120 : decode cX1_pass 120 = .ok (.lload 8, 2) := by decide +kernel
theorem dX1_pass_122 : decode cX1_pass 122 = .ok (.lsub, 1) := by decide +kernel
theorem dX1_pass_123 : decode cX1_pass 123 = .ok (.lmul, 1) := by decide +kernel
theorem dX1_pass_124 : decode cX1_pass 124 = .ok (.lload 5, 2) := by decide +kernel
theorem dX1_pass_126 : decode cX1_pass 126 = .ok (.ladd, 1) := by decide +kernel
theorem dX1_pass_127 : decode cX1_pass 127 = .ok (.iload_n 2, 1) := by decide +kernel
theorem dX1_pass_128 : decode cX1_pass 128 = .ok (.iconst 1, 1) := by decide +kernel
theorem dX1_pass_129 : decode cX1_pass 129 = .ok (.if_icmp .ne 8, 3) := by decide +kernel
theorem dX1_pass_132 : decode cX1_pass 132 = .ok (.lload 10, 2) := by decide +kernel
theorem dX1_pass_134 : decode cX1_pass 134 = .ok (.goto 9, 3) := by decide +kernel
theorem dX1_pass_137 : decode cX1_pass 137 = .ok (.ldc2_w 82, 3) := by decide +kernel
theorem dX1_pass_140 : decode cX1_pass 140 = .ok (.lload 10, 2) := by decide +kernel
theorem dX1_pass_142 : decode cX1_pass 142 = .ok (.lsub, 1) := by decide +kernel
theorem dX1_pass_143 : decode cX1_pass 143 = .ok (.lmul, 1) := by decide +kernel
theorem dX1_pass_144 : decode cX1_pass 144 = .ok (.lastore, 1) := by decide +kernel
theorem dX1_pass_145 : decode cX1_pass 145 = .ok (.aload_n 3, 1) := by decide +kernel
theorem dX1_pass_146 : decode cX1_pass 146 = .ok (.iload 7, 2) := by decide +kernel
theorem dX1_pass_148 : decode cX1_pass 148 = .ok (.laload, 1) := by decide +kernel
theorem dX1_pass_149 : decode cX1_pass 149 = .ok (.lload 8, 2) := by decide +kernel
theorem dX1_pass_151 : decode cX1_pass 151 = .ok (.lmul, 1) := by decide +kernel
theorem dX1_pass_152 : decode cX1_pass 152 = .ok (.lstore 5, 2) := by decide +kernel
theorem dX1_pass_154 : decode cX1_pass 154 = .ok (.iinc 7 1, 3) := by decide +kernel
theorem dX1_pass_157 : decode cX1_pass 157 = .ok (.goto (-106), 3) := by decide +kernel
theorem dX1_pass_160 : decode cX1_pass 160 = .ok (.return_, 1) := by decide +kernel
set_option maxRecDepth 100000 in
theorem ggX1_settle_X6_held : GoodIn wsX1_settle wsX6_held := goodIn_r _ [5, 6, 7, 8, 9, 10, 11, 12] rfl (by decide +kernel)
set_option maxRecDepth 100000 in
theorem gX1_settle_X6_held_n84 : GoodIn wsX1_settle (wsX6_held) := ggX1_settle_X6_held
theorem dX1_settle_0 : decode cX1_settle 0 = .ok (.iload_n 1, 1) := by decide +kernel
theorem dX1_settle_1 : decode cX1_settle 1 = .ok (.ifCond .lt 8, 3) := by decide +kernel
theorem dX1_settle_4 : decode cX1_settle 4 = .ok (.iload_n 1, 1) := by decide +kernel
theorem dX1_settle_5 : decode cX1_settle 5 = .ok (.iconst 5, 1) := by decide +kernel
theorem dX1_settle_6 : decode cX1_settle 6 = .ok (.if_icmp .lt 4, 3) := by decide +kernel
theorem dX1_settle_9 : decode cX1_settle 9 = .ok (.return_, 1) := by decide +kernel
theorem dX1_settle_10 : decode cX1_settle 10 = .ok (.aload_n 0, 1) := by decide +kernel
theorem dX1_settle_11 : decode cX1_settle 11 = .ok (.getfield 16, 3) := by decide +kernel
theorem dX1_settle_14 : decode cX1_settle 14 = .ok (.iload_n 1, 1) := by decide +kernel
theorem dX1_settle_15 : decode cX1_settle 15 = .ok (.iconst 1, 1) := by decide +kernel
theorem dX1_settle_16 : decode cX1_settle 16 = .ok (.iadd, 1) := by decide +kernel
theorem dX1_settle_17 : decode cX1_settle 17 = .ok (.aload_n 0, 1) := by decide +kernel
theorem dX1_settle_18 : decode cX1_settle 18 = .ok (.getfield 16, 3) := by decide +kernel
theorem dX1_settle_21 : decode cX1_settle 21 = .ok (.iload_n 1, 1) := by decide +kernel
theorem dX1_settle_22 : decode cX1_settle 22 = .ok (.iaload, 1) := by decide +kernel
theorem dX1_settle_23 : decode cX1_settle 23 = .ok (.iload_n 2, 1) := by decide +kernel
theorem dX1_settle_24 : decode cX1_settle 24 = .ok (.iadd, 1) := by decide +kernel
theorem dX1_settle_25 : decode cX1_settle 25 = .ok (.invokestatic 84, 3) := by decide +kernel
theorem dX1_settle_28 : decode cX1_settle 28 = .ok (.iastore, 1) := by decide +kernel
theorem dX1_settle_29 : decode cX1_settle 29 = .ok (.aload_n 0, 1) := by decide +kernel
theorem dX1_settle_30 : decode cX1_settle 30 = .ok (.getfield 20, 3) := by decide +kernel
theorem dX1_settle_33 : decode cX1_settle 33 = .ok (.iload_n 1, 1) := by decide +kernel
theorem dX1_settle_34 : decode cX1_settle 34 = .ok (.iconst 1, 1) := by decide +kernel
theorem dX1_settle_35 : decode cX1_settle 35 = .ok (.iadd, 1) := by decide +kernel
theorem dX1_settle_36 : decode cX1_settle 36 = .ok (.aload_n 0, 1) := by decide +kernel
theorem dX1_settle_37 : decode cX1_settle 37 = .ok (.getfield 20, 3) := by decide +kernel
theorem dX1_settle_40 : decode cX1_settle 40 = .ok (.iload_n 1, 1) := by decide +kernel
theorem dX1_settle_41 : decode cX1_settle 41 = .ok (.iaload, 1) := by decide +kernel
theorem dX1_settle_42 : decode cX1_settle 42 = .ok (.aload_n 0, 1) := by decide +kernel
theorem dX1_settle_43 : decode cX1_settle 43 = .ok (.getfield 16, 3) := by decide +kernel
theorem dX1_settle_46 : decode cX1_settle 46 = .ok (.iload_n 1, 1) := by decide +kernel
theorem dX1_settle_47 : decode cX1_settle 47 = .ok (.iconst 1, 1) := by decide +kernel
theorem dX1_settle_48 : decode cX1_settle 48 = .ok (.iadd, 1) := by decide +kernel
theorem dX1_settle_49 : decode cX1_settle 49 = .ok (.iaload, 1) := by decide +kernel
theorem dX1_settle_50 : decode cX1_settle 50 = .ok (.aload_n 0, 1) := by decide +kernel
theorem dX1_settle_51 : decode cX1_settle 51 = .ok (.getfield 16, 3) := by decide +kernel
theorem dX1_settle_54 : decode cX1_settle 54 = .ok (.iload_n 1, 1) := by decide +kernel
theorem dX1_settle_55 : decode cX1_settle 55 = .ok (.iaload, 1) := by decide +kernel
theorem dX1_settle_56 : decode cX1_settle 56 = .ok (.if_icmp .ne 7, 3) := by decide +kernel
theorem dX1_settle_59 : decode cX1_settle 59 = .ok (.iconst 0, 1) := by decide +kernel
theorem dX1_settle_60 : decode cX1_settle 60 = .ok (.goto 4, 3) := by decide +kernel
theorem dX1_settle_63 : decode cX1_settle 63 = .ok (.iconst 1, 1) := by decide +kernel
theorem dX1_settle_64 : decode cX1_settle 64 = .ok (.iadd, 1) := by decide +kernel
theorem dX1_settle_65 : decode cX1_settle 65 = .ok (.iastore, 1) := by decide +kernel
theorem dX1_settle_66 : decode cX1_settle 66 = .ok (.return_, 1) := by decide +kernel
set_option maxRecDepth 100000 in
theorem ggX1_wish_X1_twice : GoodIn wsX1_wish wsX1_twice := goodIn_r _ [8, 3, 9, 39, 40, 41, 42, 43, 44, 45] rfl (by decide +kernel)
set_option maxRecDepth 100000 in
theorem gX1_wish_X1_twice : GoodIn wsX1_wish (wsV RX1 87 RX1 yX1_twice wsX1_twice) := goodIn_app (goodIn_of _ (by decide +kernel)) ggX1_wish_X1_twice
set_option maxRecDepth 100000 in
theorem ggX1_wish_X1_sure : GoodIn wsX1_wish wsX1_sure := goodIn_r _ [13, 9, 14, 2, 15, 16, 17, 7, 18, 19, 20, 21, 22, 23, 24, 25, 26, 27, 28, 29, 39, 40, 41, 42, 43, 44, 45] rfl (by decide +kernel)
set_option maxRecDepth 100000 in
theorem gX1_wish_X1_sure : GoodIn wsX1_wish (wsV RX1 90 RX1 yX1_sure wsX1_sure) := goodIn_app (goodIn_of _ (by decide +kernel)) ggX1_wish_X1_sure
set_option maxRecDepth 100000 in
theorem ggX1_wish_X1_wrongTwice : GoodIn wsX1_wish wsX1_wrongTwice := goodIn_r _ [33, 3, 39, 40, 41, 42, 43, 44, 45] rfl (by decide +kernel)
set_option maxRecDepth 100000 in
theorem gX1_wish_X1_wrongTwice : GoodIn wsX1_wish (wsV RX1 93 RX1 yX1_wrongTwice wsX1_wrongTwice) := goodIn_app (goodIn_of _ (by decide +kernel)) ggX1_wish_X1_wrongTwice
set_option maxRecDepth 100000 in
theorem ggX1_wish_X1_unsure : GoodIn wsX1_wish wsX1_unsure := goodIn_r _ [37, 9, 38, 2, 15, 16, 17, 7, 18, 19, 20, 21, 22, 23, 24, 25, 26, 27, 28, 29, 39, 40, 41, 42, 43, 44, 45] rfl (by decide +kernel)
set_option maxRecDepth 100000 in
theorem gX1_wish_X1_unsure : GoodIn wsX1_wish (wsV RX1 97 RX1 yX1_unsure wsX1_unsure) := goodIn_app (goodIn_of _ (by decide +kernel)) ggX1_wish_X1_unsure
theorem dX1_wish_0 : decode cX1_wish 0 = .ok (.iload_n 1, 1) := by decide +kernel
theorem dX1_wish_1 : decode cX1_wish 1 = .ok (.ifCond .lt 8, 3) := by decide +kernel
theorem dX1_wish_4 : decode cX1_wish 4 = .ok (.iload_n 1, 1) := by decide +kernel
theorem dX1_wish_5 : decode cX1_wish 5 = .ok (.iconst 5, 1) := by decide +kernel
theorem dX1_wish_6 : decode cX1_wish 6 = .ok (.if_icmp .lt 5, 3) := by decide +kernel
theorem dX1_wish_9 : decode cX1_wish 9 = .ok (.iconst 0, 1) := by decide +kernel
theorem dX1_wish_10 : decode cX1_wish 10 = .ok (.ireturn, 1) := by decide +kernel
theorem dX1_wish_11 : decode cX1_wish 11 = .ok (.aload_n 0, 1) := by decide +kernel
theorem dX1_wish_12 : decode cX1_wish 12 = .ok (.getfield 23, 3) := by decide +kernel
theorem dX1_wish_15 : decode cX1_wish 15 = .ok (.tableswitch 121 1 5 #[33, 39, 63, 69, 95], 33) := by decide +kernel
theorem dX1_wish_48 : decode cX1_wish 48 = .ok (.aload_n 0, 1) := by decide +kernel
theorem dX1_wish_49 : decode cX1_wish 49 = .ok (.iload_n 1, 1) := by decide +kernel
theorem dX1_wish_50 : decode cX1_wish 50 = .ok (.invokevirtual 87, 3) := by decide +kernel
theorem dX1_wish_53 : decode cX1_wish 53 = .ok (.ireturn, 1) := by decide +kernel
theorem dX1_wish_54 : decode cX1_wish 54 = .ok (.aload_n 0, 1) := by decide +kernel
theorem dX1_wish_55 : decode cX1_wish 55 = .ok (.getfield 27, 3) := by decide +kernel
theorem dX1_wish_58 : decode cX1_wish 58 = .ok (.ifCond .le 18, 3) := by decide +kernel
theorem dX1_wish_61 : decode cX1_wish 61 = .ok (.iload_n 1, 1) := by decide +kernel
theorem dX1_wish_62 : decode cX1_wish 62 = .ok (.iconst 1, 1) := by decide +kernel
theorem dX1_wish_63 : decode cX1_wish 63 = .ok (.iadd, 1) := by decide +kernel
theorem dX1_wish_64 : decode cX1_wish 64 = .ok (.aload_n 0, 1) := by decide +kernel
theorem dX1_wish_65 : decode cX1_wish 65 = .ok (.getfield 27, 3) := by decide +kernel
theorem dX1_wish_68 : decode cX1_wish 68 = .ok (.irem, 1) := by decide +kernel
theorem dX1_wish_69 : decode cX1_wish 69 = .ok (.ifCond .ne 7, 3) := by decide +kernel
theorem dX1_wish_72 : decode cX1_wish 72 = .ok (.iconst 1, 1) := by decide +kernel
theorem dX1_wish_73 : decode cX1_wish 73 = .ok (.goto 4, 3) := by decide +kernel
theorem dX1_wish_76 : decode cX1_wish 76 = .ok (.iconst 0, 1) := by decide +kernel
theorem dX1_wish_77 : decode cX1_wish 77 = .ok (.ireturn, 1) := by decide +kernel
theorem dX1_wish_78 : decode cX1_wish 78 = .ok (.aload_n 0, 1) := by decide +kernel
theorem dX1_wish_79 : decode cX1_wish 79 = .ok (.iload_n 1, 1) := by decide +kernel
theorem dX1_wish_80 : decode cX1_wish 80 = .ok (.invokevirtual 90, 3) := by decide +kernel
theorem dX1_wish_83 : decode cX1_wish 83 = .ok (.ireturn, 1) := by decide +kernel
theorem dX1_wish_84 : decode cX1_wish 84 = .ok (.aload_n 0, 1) := by decide +kernel
theorem dX1_wish_85 : decode cX1_wish 85 = .ok (.iload_n 1, 1) := by decide +kernel
theorem dX1_wish_86 : decode cX1_wish 86 = .ok (.invokevirtual 87, 3) := by decide +kernel
theorem dX1_wish_89 : decode cX1_wish 89 = .ok (.ifCond .ne 15, 3) := by decide +kernel
theorem dX1_wish_92 : decode cX1_wish 92 = .ok (.aload_n 0, 1) := by decide +kernel
theorem dX1_wish_93 : decode cX1_wish 93 = .ok (.iload_n 1, 1) := by decide +kernel
theorem dX1_wish_94 : decode cX1_wish 94 = .ok (.invokevirtual 93, 3) := by decide +kernel
theorem dX1_wish_97 : decode cX1_wish 97 = .ok (.ifCond .eq 7, 3) := by decide +kernel
theorem dX1_wish_100 : decode cX1_wish 100 = .ok (.iconst (-1), 1) := by decide +kernel
theorem dX1_wish_101 : decode cX1_wish 101 = .ok (.goto 8, 3) := by decide +kernel
theorem dX1_wish_104 : decode cX1_wish 104 = .ok (.aload_n 0, 1) := by decide +kernel
theorem dX1_wish_105 : decode cX1_wish 105 = .ok (.iload_n 1, 1) := by decide +kernel
theorem dX1_wish_106 : decode cX1_wish 106 = .ok (.invokevirtual 87, 3) := by decide +kernel
theorem dX1_wish_109 : decode cX1_wish 109 = .ok (.ireturn, 1) := by decide +kernel
theorem dX1_wish_110 : decode cX1_wish 110 = .ok (.aload_n 0, 1) := by decide +kernel
theorem dX1_wish_111 : decode cX1_wish 111 = .ok (.iload_n 1, 1) := by decide +kernel
theorem dX1_wish_112 : decode cX1_wish 112 = .ok (.invokevirtual 90, 3) := by decide +kernel
theorem dX1_wish_115 : decode cX1_wish 115 = .ok (.ifCond .ne 15, 3) := by decide +kernel
theorem dX1_wish_118 : decode cX1_wish 118 = .ok (.aload_n 0, 1) := by decide +kernel
theorem dX1_wish_119 : decode cX1_wish 119 = .ok (.iload_n 1, 1) := by decide +kernel
theorem dX1_wish_120 : decode cX1_wish 120 = .ok (.invokevirtual 97, 3) := by decide +kernel
theorem dX1_wish_123 : decode cX1_wish 123 = .ok (.ifCond .eq 7, 3) := by decide +kernel
theorem dX1_wish_126 : decode cX1_wish 126 = .ok (.iconst (-1), 1) := by decide +kernel
theorem dX1_wish_127 : decode cX1_wish 127 = .ok (.goto 8, 3) := by decide +kernel
theorem dX1_wish_130 : decode cX1_wish 130 = .ok (.aload_n 0, 1) := by decide +kernel
theorem dX1_wish_131 : decode cX1_wish 131 = .ok (.iload_n 1, 1) := by decide +kernel
theorem dX1_wish_132 : decode cX1_wish 132 = .ok (.invokevirtual 90, 3) := by decide +kernel
theorem dX1_wish_135 : decode cX1_wish 135 = .ok (.ireturn, 1) := by decide +kernel
theorem dX1_wish_136 : decode cX1_wish 136 = .ok (.aload_n 0, 1) := by decide +kernel
theorem dX1_wish_137 : decode cX1_wish 137 = .ok (.getfield 30, 3) := by decide +kernel
theorem dX1_wish_140 : decode cX1_wish 140 = .ok (.iload_n 1, 1) := by decide +kernel
theorem dX1_wish_141 : decode cX1_wish 141 = .ok (.ishr, 1) := by decide +kernel
theorem dX1_wish_142 : decode cX1_wish 142 = .ok (.iconst 1, 1) := by decide +kernel
theorem dX1_wish_143 : decode cX1_wish 143 = .ok (.iand, 1) := by decide +kernel
theorem dX1_wish_144 : decode cX1_wish 144 = .ok (.ireturn, 1) := by decide +kernel
theorem dX1_twice_0 : decode cX1_twice 0 = .ok (.iload_n 1, 1) := by decide +kernel
theorem dX1_twice_1 : decode cX1_twice 1 = .ok (.iconst 1, 1) := by decide +kernel
theorem dX1_twice_2 : decode cX1_twice 2 = .ok (.if_icmp .lt 22, 3) := by decide +kernel
theorem dX1_twice_5 : decode cX1_twice 5 = .ok (.iload_n 1, 1) := by decide +kernel
theorem dX1_twice_6 : decode cX1_twice 6 = .ok (.iconst 5, 1) := by decide +kernel
theorem dX1_twice_7 : decode cX1_twice 7 = .ok (.if_icmp .ge 17, 3) := by decide +kernel
theorem dX1_twice_10 : decode cX1_twice 10 = .ok (.aload_n 0, 1) := by decide +kernel
theorem dX1_twice_11 : decode cX1_twice 11 = .ok (.getfield 30, 3) := by decide +kernel
theorem dX1_twice_14 : decode cX1_twice 14 = .ok (.iload_n 1, 1) := by decide +kernel
theorem dX1_twice_15 : decode cX1_twice 15 = .ok (.iconst 1, 1) := by decide +kernel
theorem dX1_twice_16 : decode cX1_twice 16 = .ok (.isub, 1) := by decide +kernel
theorem dX1_twice_17 : decode cX1_twice 17 = .ok (.ishr, 1) := by decide +kernel
theorem dX1_twice_18 : decode cX1_twice 18 = .ok (.iconst 3, 1) := by decide +kernel
theorem dX1_twice_19 : decode cX1_twice 19 = .ok (.iand, 1) := by decide +kernel
theorem dX1_twice_20 : decode cX1_twice 20 = .ok (.iconst 3, 1) := by decide +kernel
theorem dX1_twice_21 : decode cX1_twice 21 = .ok (.if_icmp .eq 5, 3) := by decide +kernel
theorem dX1_twice_24 : decode cX1_twice 24 = .ok (.iconst 0, 1) := by decide +kernel
theorem dX1_twice_25 : decode cX1_twice 25 = .ok (.ireturn, 1) := by decide +kernel
theorem dX1_twice_26 : decode cX1_twice 26 = .ok (.aload_n 0, 1) := by decide +kernel
theorem dX1_twice_27 : decode cX1_twice 27 = .ok (.getfield 16, 3) := by decide +kernel
theorem dX1_twice_30 : decode cX1_twice 30 = .ok (.iload_n 1, 1) := by decide +kernel
theorem dX1_twice_31 : decode cX1_twice 31 = .ok (.iaload, 1) := by decide +kernel
theorem dX1_twice_32 : decode cX1_twice 32 = .ok (.aload_n 0, 1) := by decide +kernel
theorem dX1_twice_33 : decode cX1_twice 33 = .ok (.getfield 16, 3) := by decide +kernel
theorem dX1_twice_36 : decode cX1_twice 36 = .ok (.iload_n 1, 1) := by decide +kernel
theorem dX1_twice_37 : decode cX1_twice 37 = .ok (.iconst 1, 1) := by decide +kernel
theorem dX1_twice_38 : decode cX1_twice 38 = .ok (.isub, 1) := by decide +kernel
theorem dX1_twice_39 : decode cX1_twice 39 = .ok (.iaload, 1) := by decide +kernel
theorem dX1_twice_40 : decode cX1_twice 40 = .ok (.if_icmp .ne 7, 3) := by decide +kernel
theorem dX1_twice_43 : decode cX1_twice 43 = .ok (.iconst 1, 1) := by decide +kernel
theorem dX1_twice_44 : decode cX1_twice 44 = .ok (.goto 4, 3) := by decide +kernel
theorem dX1_twice_47 : decode cX1_twice 47 = .ok (.iconst 0, 1) := by decide +kernel
theorem dX1_twice_48 : decode cX1_twice 48 = .ok (.ireturn, 1) := by decide +kernel
theorem dX1_wrongTwice_0 : decode cX1_wrongTwice 0 = .ok (.iload_n 1, 1) := by decide +kernel
theorem dX1_wrongTwice_1 : decode cX1_wrongTwice 1 = .ok (.iconst 1, 1) := by decide +kernel
theorem dX1_wrongTwice_2 : decode cX1_wrongTwice 2 = .ok (.if_icmp .lt 20, 3) := by decide +kernel
theorem dX1_wrongTwice_5 : decode cX1_wrongTwice 5 = .ok (.aload_n 0, 1) := by decide +kernel
theorem dX1_wrongTwice_6 : decode cX1_wrongTwice 6 = .ok (.getfield 30, 3) := by decide +kernel
theorem dX1_wrongTwice_9 : decode cX1_wrongTwice 9 = .ok (.iload_n 1, 1) := by decide +kernel
theorem dX1_wrongTwice_10 : decode cX1_wrongTwice 10 = .ok (.iconst 1, 1) := by decide +kernel
theorem dX1_wrongTwice_11 : decode cX1_wrongTwice 11 = .ok (.isub, 1) := by decide +kernel
theorem dX1_wrongTwice_12 : decode cX1_wrongTwice 12 = .ok (.ishr, 1) := by decide +kernel
theorem dX1_wrongTwice_13 : decode cX1_wrongTwice 13 = .ok (.iconst 3, 1) := by decide +kernel
theorem dX1_wrongTwice_14 : decode cX1_wrongTwice 14 = .ok (.iand, 1) := by decide +kernel
theorem dX1_wrongTwice_15 : decode cX1_wrongTwice 15 = .ok (.ifCond .ne 7, 3) := by decide +kernel
theorem dX1_wrongTwice_18 : decode cX1_wrongTwice 18 = .ok (.iconst 1, 1) := by decide +kernel
theorem dX1_wrongTwice_19 : decode cX1_wrongTwice 19 = .ok (.goto 4, 3) := by decide +kernel
theorem dX1_wrongTwice_22 : decode cX1_wrongTwice 22 = .ok (.iconst 0, 1) := by decide +kernel
theorem dX1_wrongTwice_23 : decode cX1_wrongTwice 23 = .ok (.ireturn, 1) := by decide +kernel
set_option maxRecDepth 100000 in
theorem ggX1_sure_X1_from : GoodIn wsX1_sure wsX1_from := goodIn_r _ [8, 9, 10, 11, 12, 13, 14, 15, 7, 16, 17, 18, 19, 20, 21, 22, 23, 24, 25, 26] rfl (by decide +kernel)
set_option maxRecDepth 100000 in
theorem gX1_sure_X1_from : GoodIn wsX1_sure (wsV RX1 60 RX1 yX1_from wsX1_from) := goodIn_app (goodIn_of _ (by decide +kernel)) ggX1_sure_X1_from
set_option maxRecDepth 100000 in
theorem ggX1_sure_X1_bounded : GoodIn wsX1_sure wsX1_bounded := goodIn_r _ [16, 17, 18, 12, 19, 10, 11, 13] rfl (by decide +kernel)
set_option maxRecDepth 100000 in
theorem gX1_sure_X1_bounded : GoodIn wsX1_sure (va_wsS RX1 48 yX1_bounded wsX1_bounded) := goodIn_app (goodIn_of _ (by decide +kernel)) ggX1_sure_X1_bounded
theorem dX1_sure_0 : decode cX1_sure 0 = .ok (.aload_n 0, 1) := by decide +kernel
theorem dX1_sure_1 : decode cX1_sure 1 = .ok (.iconst 0, 1) := by decide +kernel
theorem dX1_sure_2 : decode cX1_sure 2 = .ok (.iload_n 1, 1) := by decide +kernel
theorem dX1_sure_3 : decode cX1_sure 3 = .ok (.iconst 1, 1) := by decide +kernel
theorem dX1_sure_4 : decode cX1_sure 4 = .ok (.iadd, 1) := by decide +kernel
theorem dX1_sure_5 : decode cX1_sure 5 = .ok (.invokevirtual 60, 3) := by decide +kernel
theorem dX1_sure_8 : decode cX1_sure 8 = .ok (.lstore_n 2, 1) := by decide +kernel
theorem dX1_sure_9 : decode cX1_sure 9 = .ok (.lload_n 2, 1) := by decide +kernel
theorem dX1_sure_10 : decode cX1_sure 10 = .ok (.lconst 0, 1) := by decide +kernel
theorem dX1_sure_11 : decode cX1_sure 11 = .ok (.lcmp, 1) := by decide +kernel
theorem dX1_sure_12 : decode cX1_sure 12 = .ok (.ifCond .le 38, 3) := by decide +kernel
theorem dX1_sure_15 : decode cX1_sure 15 = .ok (.aload_n 0, 1) := by decide +kernel
theorem dX1_sure_16 : decode cX1_sure 16 = .ok (.aload_n 0, 1) := by decide +kernel
theorem dX1_sure_17 : decode cX1_sure 17 = .ok (.getfield 16, 3) := by decide +kernel
theorem dX1_sure_20 : decode cX1_sure 20 = .ok (.iload_n 1, 1) := by decide +kernel
theorem dX1_sure_21 : decode cX1_sure 21 = .ok (.invokestatic 48, 3) := by decide +kernel
theorem dX1_sure_24 : decode cX1_sure 24 = .ok (.iaload, 1) := by decide +kernel
theorem dX1_sure_25 : decode cX1_sure 25 = .ok (.iload_n 1, 1) := by decide +kernel
theorem dX1_sure_26 : decode cX1_sure 26 = .ok (.iconst 1, 1) := by decide +kernel
theorem dX1_sure_27 : decode cX1_sure 27 = .ok (.iadd, 1) := by decide +kernel
theorem dX1_sure_28 : decode cX1_sure 28 = .ok (.invokevirtual 60, 3) := by decide +kernel
theorem dX1_sure_31 : decode cX1_sure 31 = .ok (.ldc2_w 82, 3) := by decide +kernel
theorem dX1_sure_34 : decode cX1_sure 34 = .ok (.lmul, 1) := by decide +kernel
theorem dX1_sure_35 : decode cX1_sure 35 = .ok (.aload_n 0, 1) := by decide +kernel
theorem dX1_sure_36 : decode cX1_sure 36 = .ok (.getfield 27, 3) := by decide +kernel
theorem dX1_sure_39 : decode cX1_sure 39 = .ok (.i2l, 1) := by decide +kernel
theorem dX1_sure_40 : decode cX1_sure 40 = .ok (.lload_n 2, 1) := by decide +kernel
theorem dX1_sure_41 : decode cX1_sure 41 = .ok (.lmul, 1) := by decide +kernel
theorem dX1_sure_42 : decode cX1_sure 42 = .ok (.lcmp, 1) := by decide +kernel
theorem dX1_sure_43 : decode cX1_sure 43 = .ok (.ifCond .lt 7, 3) := by decide +kernel
theorem dX1_sure_46 : decode cX1_sure 46 = .ok (.iconst 1, 1) := by decide +kernel
theorem dX1_sure_47 : decode cX1_sure 47 = .ok (.goto 4, 3) := by decide +kernel
theorem dX1_sure_50 : decode cX1_sure 50 = .ok (.iconst 0, 1) := by decide +kernel
theorem dX1_sure_51 : decode cX1_sure 51 = .ok (.ireturn, 1) := by decide +kernel
set_option maxRecDepth 100000 in
theorem ggX1_unsure_X1_from : GoodIn wsX1_unsure wsX1_from := goodIn_r _ [8, 9, 10, 11, 12, 13, 14, 15, 7, 16, 17, 18, 19, 20, 21, 22, 23, 24, 25, 26] rfl (by decide +kernel)
set_option maxRecDepth 100000 in
theorem gX1_unsure_X1_from : GoodIn wsX1_unsure (wsV RX1 60 RX1 yX1_from wsX1_from) := goodIn_app (goodIn_of _ (by decide +kernel)) ggX1_unsure_X1_from
set_option maxRecDepth 100000 in
theorem ggX1_unsure_X1_bounded : GoodIn wsX1_unsure wsX1_bounded := goodIn_r _ [16, 17, 18, 12, 19, 10, 11, 13] rfl (by decide +kernel)
set_option maxRecDepth 100000 in
theorem gX1_unsure_X1_bounded : GoodIn wsX1_unsure (va_wsS RX1 48 yX1_bounded wsX1_bounded) := goodIn_app (goodIn_of _ (by decide +kernel)) ggX1_unsure_X1_bounded
theorem dX1_unsure_0 : decode cX1_unsure 0 = .ok (.aload_n 0, 1) := by decide +kernel
theorem dX1_unsure_1 : decode cX1_unsure 1 = .ok (.iconst 0, 1) := by decide +kernel
theorem dX1_unsure_2 : decode cX1_unsure 2 = .ok (.iload_n 1, 1) := by decide +kernel
theorem dX1_unsure_3 : decode cX1_unsure 3 = .ok (.iconst 1, 1) := by decide +kernel
theorem dX1_unsure_4 : decode cX1_unsure 4 = .ok (.iadd, 1) := by decide +kernel
theorem dX1_unsure_5 : decode cX1_unsure 5 = .ok (.invokevirtual 60, 3) := by decide +kernel
theorem dX1_unsure_8 : decode cX1_unsure 8 = .ok (.lstore_n 2, 1) := by decide +kernel
theorem dX1_unsure_9 : decode cX1_unsure 9 = .ok (.lload_n 2, 1) := by decide +kernel
theorem dX1_unsure_10 : decode cX1_unsure 10 = .ok (.lconst 0, 1) := by decide +kernel
theorem dX1_unsure_11 : decode cX1_unsure 11 = .ok (.lcmp, 1) := by decide +kernel
theorem dX1_unsure_12 : decode cX1_unsure 12 = .ok (.ifCond .le 38, 3) := by decide +kernel
theorem dX1_unsure_15 : decode cX1_unsure 15 = .ok (.aload_n 0, 1) := by decide +kernel
theorem dX1_unsure_16 : decode cX1_unsure 16 = .ok (.aload_n 0, 1) := by decide +kernel
theorem dX1_unsure_17 : decode cX1_unsure 17 = .ok (.getfield 16, 3) := by decide +kernel
theorem dX1_unsure_20 : decode cX1_unsure 20 = .ok (.iload_n 1, 1) := by decide +kernel
theorem dX1_unsure_21 : decode cX1_unsure 21 = .ok (.invokestatic 48, 3) := by decide +kernel
theorem dX1_unsure_24 : decode cX1_unsure 24 = .ok (.iaload, 1) := by decide +kernel
theorem dX1_unsure_25 : decode cX1_unsure 25 = .ok (.iload_n 1, 1) := by decide +kernel
theorem dX1_unsure_26 : decode cX1_unsure 26 = .ok (.iconst 1, 1) := by decide +kernel
theorem dX1_unsure_27 : decode cX1_unsure 27 = .ok (.iadd, 1) := by decide +kernel
theorem dX1_unsure_28 : decode cX1_unsure 28 = .ok (.invokevirtual 60, 3) := by decide +kernel
theorem dX1_unsure_31 : decode cX1_unsure 31 = .ok (.ldc2_w 100, 3) := by decide +kernel
theorem dX1_unsure_34 : decode cX1_unsure 34 = .ok (.lmul, 1) := by decide +kernel
theorem dX1_unsure_35 : decode cX1_unsure 35 = .ok (.aload_n 0, 1) := by decide +kernel
theorem dX1_unsure_36 : decode cX1_unsure 36 = .ok (.getfield 27, 3) := by decide +kernel
theorem dX1_unsure_39 : decode cX1_unsure 39 = .ok (.i2l, 1) := by decide +kernel
theorem dX1_unsure_40 : decode cX1_unsure 40 = .ok (.lload_n 2, 1) := by decide +kernel
theorem dX1_unsure_41 : decode cX1_unsure 41 = .ok (.lmul, 1) := by decide +kernel
theorem dX1_unsure_42 : decode cX1_unsure 42 = .ok (.lcmp, 1) := by decide +kernel
theorem dX1_unsure_43 : decode cX1_unsure 43 = .ok (.ifCond .ge 7, 3) := by decide +kernel
theorem dX1_unsure_46 : decode cX1_unsure 46 = .ok (.iconst 1, 1) := by decide +kernel
theorem dX1_unsure_47 : decode cX1_unsure 47 = .ok (.goto 4, 3) := by decide +kernel
theorem dX1_unsure_50 : decode cX1_unsure 50 = .ok (.iconst 0, 1) := by decide +kernel
theorem dX1_unsure_51 : decode cX1_unsure 51 = .ok (.ireturn, 1) := by decide +kernel
set_option maxRecDepth 100000 in
theorem ggX1_ends_X1_endsNow : GoodIn wsX1_ends wsX1_endsNow := goodIn_r _ [5, 6, 7, 8, 9, 10, 11, 12, 13, 14, 15, 16, 17, 18, 19, 20, 21, 22, 23, 24, 25, 26, 27, 28, 29, 30, 31, 32, 83, 84, 85, 86, 87, 88, 89, 90, 91, 92, 93, 94, 95, 96, 97] rfl (by decide +kernel)
set_option maxRecDepth 100000 in
theorem gX1_ends_X1_endsNow : GoodIn wsX1_ends (wsV RX1 102 RX1 yX1_endsNow wsX1_endsNow) := goodIn_app (goodIn_of _ (by decide +kernel)) ggX1_ends_X1_endsNow
set_option maxRecDepth 100000 in
theorem ggX1_ends_X1_pass : GoodIn wsX1_ends wsX1_pass := goodIn_r _ [36, 37, 6, 7, 8, 9, 38, 10, 11, 12, 13, 14, 15, 16, 17, 18, 19, 20, 21, 22, 23, 24, 25, 26, 27, 28, 29, 30, 31, 32, 83, 84, 85, 86, 87, 88, 89, 90, 91, 92, 93, 94, 95, 96, 97] rfl (by decide +kernel)
set_option maxRecDepth 100000 in
theorem gX1_ends_X1_pass : GoodIn wsX1_ends (wsV RX1 37 RX1 yX1_pass wsX1_pass) := goodIn_app (goodIn_of _ (by decide +kernel)) ggX1_ends_X1_pass
set_option maxRecDepth 100000 in
theorem ggX1_ends_X1_wish : GoodIn wsX1_ends wsX1_wish := goodIn_r _ [42, 43, 44, 37, 45, 46, 47, 4, 48, 8, 49, 50, 51, 52, 38, 53, 54, 55, 56, 6, 57, 18, 19, 20, 58, 59, 60, 61, 22, 23, 62, 63, 64, 65, 66, 67, 68, 69, 70, 83, 84, 85, 86, 87, 88, 89] rfl (by decide +kernel)
set_option maxRecDepth 100000 in
theorem gX1_ends_X1_wish : GoodIn wsX1_ends (wsV RX1 41 RX1 yX1_wish wsX1_wish) := goodIn_app (goodIn_of _ (by decide +kernel)) ggX1_ends_X1_wish
set_option maxRecDepth 100000 in
theorem ggX1_ends_X1_settle : GoodIn wsX1_ends wsX1_settle := goodIn_r _ [74, 8, 9, 75, 76, 77, 78, 22, 19, 23, 79, 18, 20, 83, 84, 85, 86, 87, 88, 89] rfl (by decide +kernel)
set_option maxRecDepth 100000 in
theorem gX1_ends_X1_settle : GoodIn wsX1_ends (wsV RX1 45 RX1 yX1_settle wsX1_settle) := goodIn_app (goodIn_of _ (by decide +kernel)) ggX1_ends_X1_settle
set_option maxRecDepth 100000 in
theorem ggX1_ends_X1_ends : GoodIn wsX1_ends wsX1_ends := goodIn_r _ [0, 1, 2, 3, 4, 5, 6, 7, 8, 9, 10, 11, 12, 13, 14, 15, 16, 17, 18, 19, 20, 21, 22, 23, 24, 25, 26, 27, 28, 29, 30, 31, 32, 33, 34, 35, 36, 37, 38, 39, 40, 41, 42, 43, 44, 45, 46, 47, 48, 49, 50, 51, 52, 53, 54, 55, 56, 57, 58, 59, 60, 61, 62, 63, 64, 65, 66, 67, 68, 69, 70, 71, 72, 73, 74, 75, 76, 77, 78, 79, 80, 81, 82, 83, 84, 85, 86, 87, 88, 89, 90, 91, 92, 93, 94, 95, 96, 97] rfl (by decide +kernel)
set_option maxRecDepth 100000 in
theorem gX1_ends_X1_ends : GoodIn wsX1_ends (wsV RX1 106 RX1 yX1_ends wsX1_ends) := goodIn_app (goodIn_of _ (by decide +kernel)) ggX1_ends_X1_ends
theorem dX1_ends_0 : decode cX1_ends 0 = .ok (.iload_n 1, 1) := by decide +kernel
theorem dX1_ends_1 : decode cX1_ends 1 = .ok (.iconst 5, 1) := by decide +kernel
theorem dX1_ends_2 : decode cX1_ends 2 = .ok (.if_icmp .lt 8, 3) := by decide +kernel
theorem dX1_ends_5 : decode cX1_ends 5 = .ok (.aload_n 0, 1) := by decide +kernel
theorem dX1_ends_6 : decode cX1_ends 6 = .ok (.invokevirtual 102, 3) := by decide +kernel
theorem dX1_ends_9 : decode cX1_ends 9 = .ok (.lreturn, 1) := by decide +kernel
theorem dX1_ends_10 : decode cX1_ends 10 = .ok (.lconst 0, 1) := by decide +kernel
theorem dX1_ends_11 : decode cX1_ends 11 = .ok (.lstore_n 2, 1) := by decide +kernel
theorem dX1_ends_12 : decode cX1_ends 12 = .ok (.iconst 0, 1) := by decide +kernel
theorem dX1_ends_13 : decode cX1_ends 13 = .ok (.istore 4, 2) := by decide +kernel
theorem dX1_ends_15 : decode cX1_ends 15 = .ok (.iload 4, 2) := by decide +kernel
theorem dX1_ends_17 : decode cX1_ends 17 = .ok (.iconst 2, 1) := by decide +kernel
theorem dX1_ends_18 : decode cX1_ends 18 = .ok (.if_icmp .ge 36, 3) := by decide +kernel
theorem dX1_ends_21 : decode cX1_ends 21 = .ok (.aload_n 0, 1) := by decide +kernel
theorem dX1_ends_22 : decode cX1_ends 22 = .ok (.iload_n 1, 1) := by decide +kernel
theorem dX1_ends_23 : decode cX1_ends 23 = .ok (.iload 4, 2) := by decide +kernel
theorem dX1_ends_25 : decode cX1_ends 25 = .ok (.invokevirtual 37, 3) := by decide +kernel
theorem dX1_ends_28 : decode cX1_ends 28 = .ok (.aload_n 0, 1) := by decide +kernel
theorem dX1_ends_29 : decode cX1_ends 29 = .ok (.iload_n 1, 1) := by decide +kernel
theorem dX1_ends_30 : decode cX1_ends 30 = .ok (.aload_n 0, 1) := by decide +kernel
theorem dX1_ends_31 : decode cX1_ends 31 = .ok (.iload_n 1, 1) := by decide +kernel
theorem dX1_ends_32 : decode cX1_ends 32 = .ok (.invokevirtual 41, 3) := by decide +kernel
theorem dX1_ends_35 : decode cX1_ends 35 = .ok (.invokevirtual 45, 3) := by decide +kernel
theorem dX1_ends_38 : decode cX1_ends 38 = .ok (.lload_n 2, 1) := by decide +kernel
theorem dX1_ends_39 : decode cX1_ends 39 = .ok (.aload_n 0, 1) := by decide +kernel
theorem dX1_ends_40 : decode cX1_ends 40 = .ok (.iload_n 1, 1) := by decide +kernel
theorem dX1_ends_41 : decode cX1_ends 41 = .ok (.iconst 1, 1) := by decide +kernel
theorem dX1_ends_42 : decode cX1_ends 42 = .ok (.iadd, 1) := by decide +kernel
theorem dX1_ends_43 : decode cX1_ends 43 = .ok (.invokevirtual 106, 3) := by decide +kernel
theorem dX1_ends_46 : decode cX1_ends 46 = .ok (.ladd, 1) := by decide +kernel
theorem dX1_ends_47 : decode cX1_ends 47 = .ok (.lstore_n 2, 1) := by decide +kernel
theorem dX1_ends_48 : decode cX1_ends 48 = .ok (.iinc 4 1, 3) := by decide +kernel
theorem dX1_ends_51 : decode cX1_ends 51 = .ok (.goto (-36), 3) := by decide +kernel
theorem dX1_ends_54 : decode cX1_ends 54 = .ok (.lload_n 2, 1) := by decide +kernel
theorem dX1_ends_55 : decode cX1_ends 55 = .ok (.lreturn, 1) := by decide +kernel
set_option maxRecDepth 100000 in
theorem ggX1_rights_J6_bitCount_0f7a4 : GoodIn wsX1_rights wsJ6_bitCount_0f7a4 := goodIn_r _ [5, 6, 7, 8] rfl (by decide +kernel)
set_option maxRecDepth 100000 in
theorem gX1_rights_J6_bitCount_0f7a4 : GoodIn wsX1_rights (va_wsS RX1 109 yJ6_bitCount_0f7a4 wsJ6_bitCount_0f7a4) := goodIn_app (goodIn_of _ (by decide +kernel)) ggX1_rights_J6_bitCount_0f7a4
set_option maxRecDepth 100000 in
theorem ggX1_rights_X1_together : GoodIn wsX1_rights wsX1_together := goodIn_r _ [13, 14, 15, 16, 12, 17, 18, 19, 20, 21, 22, 23, 24, 25, 26, 27, 28, 90, 91, 92, 93, 94, 95, 96] rfl (by decide +kernel)
set_option maxRecDepth 100000 in
theorem gX1_rights_X1_together : GoodIn wsX1_rights (wsV RX1 67 RX1 yX1_together wsX1_together) := goodIn_app (goodIn_of _ (by decide +kernel)) ggX1_rights_X1_together
set_option maxRecDepth 100000 in
theorem ggX1_rights_X1_pass : GoodIn wsX1_rights wsX1_pass := goodIn_r _ [32, 1, 18, 33, 34, 35, 36, 37, 38, 39, 40, 41, 42, 43, 44, 20, 21, 22, 45, 27, 28, 46, 47, 48, 49, 50, 51, 52, 53, 54, 90, 91, 92, 93, 94, 95, 96, 97, 98, 99, 100, 101, 102, 103, 104] rfl (by decide +kernel)
set_option maxRecDepth 100000 in
theorem gX1_rights_X1_pass : GoodIn wsX1_rights (wsV RX1 37 RX1 yX1_pass wsX1_pass) := goodIn_app (goodIn_of _ (by decide +kernel)) ggX1_rights_X1_pass
set_option maxRecDepth 100000 in
theorem ggX1_rights_X1_wish : GoodIn wsX1_rights wsX1_wish := goodIn_r _ [58, 59, 60, 1, 61, 62, 63, 12, 64, 34, 65, 66, 67, 68, 36, 14, 15, 16, 17, 18, 19, 20, 21, 22, 23, 24, 25, 26, 27, 28, 69, 70, 71, 72, 73, 74, 75, 76, 77, 90, 91, 92, 93, 94, 95, 96] rfl (by decide +kernel)
set_option maxRecDepth 100000 in
theorem gX1_rights_X1_wish : GoodIn wsX1_rights (wsV RX1 41 RX1 yX1_wish wsX1_wish) := goodIn_app (goodIn_of _ (by decide +kernel)) ggX1_rights_X1_wish
set_option maxRecDepth 100000 in
theorem ggX1_rights_X1_settle : GoodIn wsX1_rights wsX1_settle := goodIn_r _ [81, 34, 35, 82, 83, 84, 85, 27, 21, 28, 86, 20, 22, 90, 91, 92, 93, 94, 95, 96] rfl (by decide +kernel)
set_option maxRecDepth 100000 in
theorem gX1_rights_X1_settle : GoodIn wsX1_rights (wsV RX1 45 RX1 yX1_settle wsX1_settle) := goodIn_app (goodIn_of _ (by decide +kernel)) ggX1_rights_X1_settle
set_option maxRecDepth 100000 in
theorem ggX1_rights_X1_rights : GoodIn wsX1_rights wsX1_rights := goodIn_r _ [0, 1, 2, 3, 4, 5, 6, 7, 8, 9, 10, 11, 12, 13, 14, 15, 16, 17, 18, 19, 20, 21, 22, 23, 24, 25, 26, 27, 28, 29, 30, 31, 32, 33, 34, 35, 36, 37, 38, 39, 40, 41, 42, 43, 44, 45, 46, 47, 48, 49, 50, 51, 52, 53, 54, 55, 56, 57, 58, 59, 60, 61, 62, 63, 64, 65, 66, 67, 68, 69, 70, 71, 72, 73, 74, 75, 76, 77, 78, 79, 80, 81, 82, 83, 84, 85, 86, 87, 88, 89, 90, 91, 92, 93, 94, 95, 96, 97, 98, 99, 100, 101, 102, 103, 104] rfl (by decide +kernel)
set_option maxRecDepth 100000 in
theorem gX1_rights_X1_rights : GoodIn wsX1_rights (wsV RX1 114 RX1 yX1_rights wsX1_rights) := goodIn_app (goodIn_of _ (by decide +kernel)) ggX1_rights_X1_rights
theorem dX1_rights_0 : decode cX1_rights 0 = .ok (.iload_n 1, 1) := by decide +kernel
theorem dX1_rights_1 : decode cX1_rights 1 = .ok (.iconst 5, 1) := by decide +kernel
theorem dX1_rights_2 : decode cX1_rights 2 = .ok (.if_icmp .lt 18, 3) := by decide +kernel
theorem dX1_rights_5 : decode cX1_rights 5 = .ok (.aload_n 0, 1) := by decide +kernel
theorem dX1_rights_6 : decode cX1_rights 6 = .ok (.getfield 30, 3) := by decide +kernel
theorem dX1_rights_9 : decode cX1_rights 9 = .ok (.invokestatic 109, 3) := by decide +kernel
theorem dX1_rights_12 : decode cX1_rights 12 = .ok (.i2l, 1) := by decide +kernel
theorem dX1_rights_13 : decode cX1_rights 13 = .ok (.aload_n 0, 1) := by decide +kernel
theorem dX1_rights_14 : decode cX1_rights 14 = .ok (.iconst 5, 1) := by decide +kernel
theorem dX1_rights_15 : decode cX1_rights 15 = .ok (.invokevirtual 67, 3) := by decide +kernel
theorem dX1_rights_18 : decode cX1_rights 18 = .ok (.lmul, 1) := by decide +kernel
theorem dX1_rights_19 : decode cX1_rights 19 = .ok (.lreturn, 1) := by decide +kernel
theorem dX1_rights_20 : decode cX1_rights 20 = .ok (.lconst 0, 1) := by decide +kernel
theorem dX1_rights_21 : decode cX1_rights 21 = .ok (.lstore_n 2, 1) := by decide +kernel
theorem dX1_rights_22 : decode cX1_rights 22 = .ok (.iconst 0, 1) := by decide +kernel
theorem dX1_rights_23 : decode cX1_rights 23 = .ok (.istore 4, 2) := by decide +kernel
theorem dX1_rights_25 : decode cX1_rights 25 = .ok (.iload 4, 2) := by decide +kernel
theorem dX1_rights_27 : decode cX1_rights 27 = .ok (.iconst 2, 1) := by decide +kernel
theorem dX1_rights_28 : decode cX1_rights 28 = .ok (.if_icmp .ge 36, 3) := by decide +kernel
theorem dX1_rights_31 : decode cX1_rights 31 = .ok (.aload_n 0, 1) := by decide +kernel
theorem dX1_rights_32 : decode cX1_rights 32 = .ok (.iload_n 1, 1) := by decide +kernel
theorem dX1_rights_33 : decode cX1_rights 33 = .ok (.iload 4, 2) := by decide +kernel
theorem dX1_rights_35 : decode cX1_rights 35 = .ok (.invokevirtual 37, 3) := by decide +kernel
theorem dX1_rights_38 : decode cX1_rights 38 = .ok (.aload_n 0, 1) := by decide +kernel
theorem dX1_rights_39 : decode cX1_rights 39 = .ok (.iload_n 1, 1) := by decide +kernel
theorem dX1_rights_40 : decode cX1_rights 40 = .ok (.aload_n 0, 1) := by decide +kernel
theorem dX1_rights_41 : decode cX1_rights 41 = .ok (.iload_n 1, 1) := by decide +kernel
theorem dX1_rights_42 : decode cX1_rights 42 = .ok (.invokevirtual 41, 3) := by decide +kernel
theorem dX1_rights_45 : decode cX1_rights 45 = .ok (.invokevirtual 45, 3) := by decide +kernel
theorem dX1_rights_48 : decode cX1_rights 48 = .ok (.lload_n 2, 1) := by decide +kernel
theorem dX1_rights_49 : decode cX1_rights 49 = .ok (.aload_n 0, 1) := by decide +kernel
theorem dX1_rights_50 : decode cX1_rights 50 = .ok (.iload_n 1, 1) := by decide +kernel
theorem dX1_rights_51 : decode cX1_rights 51 = .ok (.iconst 1, 1) := by decide +kernel
theorem dX1_rights_52 : decode cX1_rights 52 = .ok (.iadd, 1) := by decide +kernel
theorem dX1_rights_53 : decode cX1_rights 53 = .ok (.invokevirtual 114, 3) := by decide +kernel
theorem dX1_rights_56 : decode cX1_rights 56 = .ok (.ladd, 1) := by decide +kernel
theorem dX1_rights_57 : decode cX1_rights 57 = .ok (.lstore_n 2, 1) := by decide +kernel
theorem dX1_rights_58 : decode cX1_rights 58 = .ok (.iinc 4 1, 3) := by decide +kernel
theorem dX1_rights_61 : decode cX1_rights 61 = .ok (.goto (-36), 3) := by decide +kernel
theorem dX1_rights_64 : decode cX1_rights 64 = .ok (.lload_n 2, 1) := by decide +kernel
theorem dX1_rights_65 : decode cX1_rights 65 = .ok (.lreturn, 1) := by decide +kernel
set_option maxRecDepth 100000 in
theorem ggX1_best_X1_endsNow : GoodIn wsX1_best wsX1_endsNow := goodIn_r _ [5, 6, 7, 8, 9, 10, 11, 12, 13, 14, 15, 16, 17, 18, 19, 20, 21, 22, 23, 24, 25, 26, 27, 28, 29, 30, 31, 32, 71, 72, 73, 74, 75, 76, 77, 78, 79, 80, 81, 82, 83, 84, 85] rfl (by decide +kernel)
set_option maxRecDepth 100000 in
theorem gX1_best_X1_endsNow : GoodIn wsX1_best (wsV RX1 102 RX1 yX1_endsNow wsX1_endsNow) := goodIn_app (goodIn_of _ (by decide +kernel)) ggX1_best_X1_endsNow
set_option maxRecDepth 100000 in
theorem ggX1_best_X1_pass : GoodIn wsX1_best wsX1_pass := goodIn_r _ [36, 37, 6, 7, 8, 9, 38, 10, 11, 12, 13, 14, 15, 16, 17, 18, 19, 20, 21, 22, 23, 24, 25, 26, 27, 28, 29, 30, 31, 32, 71, 72, 73, 74, 75, 76, 77, 78, 79, 80, 81, 82, 83, 84, 85] rfl (by decide +kernel)
set_option maxRecDepth 100000 in
theorem gX1_best_X1_pass : GoodIn wsX1_best (wsV RX1 37 RX1 yX1_pass wsX1_pass) := goodIn_app (goodIn_of _ (by decide +kernel)) ggX1_best_X1_pass
set_option maxRecDepth 100000 in
theorem ggX1_best_X1_together : GoodIn wsX1_best wsX1_together := goodIn_r _ [42, 43, 44, 45, 4, 46, 6, 47, 18, 19, 20, 48, 49, 50, 51, 22, 23, 71, 72, 73, 74, 75, 76, 77] rfl (by decide +kernel)
set_option maxRecDepth 100000 in
theorem gX1_best_X1_together : GoodIn wsX1_best (wsV RX1 67 RX1 yX1_together wsX1_together) := goodIn_app (goodIn_of _ (by decide +kernel)) ggX1_best_X1_together
set_option maxRecDepth 100000 in
theorem ggX1_best_X1_bestMove : GoodIn wsX1_best wsX1_bestMove := goodIn_r _ [55, 8, 56, 57, 19, 58, 59, 60, 61, 62, 22, 23, 63, 18, 20, 64, 65, 66, 4, 67, 9, 68, 69, 70, 0, 1, 2, 3, 5, 6, 7, 10, 11, 12, 13, 14, 15, 16, 17, 21, 24, 25, 26, 27, 28, 29, 30, 31, 32, 33, 34, 35, 36, 37, 38, 39, 40, 41, 42, 43, 44, 45, 46, 47, 48, 49, 50, 51, 52, 53, 54, 71, 72, 73, 74, 75, 76, 77, 78, 79, 80, 81, 82, 83, 84, 85] rfl (by decide +kernel)
set_option maxRecDepth 100000 in
theorem gX1_best_X1_bestMove : GoodIn wsX1_best (wsV RX1 117 RX1 yX1_bestMove wsX1_bestMove) := goodIn_app (goodIn_of _ (by decide +kernel)) ggX1_best_X1_bestMove
theorem dX1_best_0 : decode cX1_best 0 = .ok (.iload_n 1, 1) := by decide +kernel
theorem dX1_best_1 : decode cX1_best 1 = .ok (.iconst 5, 1) := by decide +kernel
theorem dX1_best_2 : decode cX1_best 2 = .ok (.if_icmp .lt 8, 3) := by decide +kernel
theorem dX1_best_5 : decode cX1_best 5 = .ok (.aload_n 0, 1) := by decide +kernel
theorem dX1_best_6 : decode cX1_best 6 = .ok (.invokevirtual 102, 3) := by decide +kernel
theorem dX1_best_9 : decode cX1_best 9 = .ok (.lreturn, 1) := by decide +kernel
theorem dX1_best_10 : decode cX1_best 10 = .ok (.lconst 0, 1) := by decide +kernel
theorem dX1_best_11 : decode cX1_best 11 = .ok (.lstore_n 2, 1) := by decide +kernel
theorem dX1_best_12 : decode cX1_best 12 = .ok (.iconst 0, 1) := by decide +kernel
theorem dX1_best_13 : decode cX1_best 13 = .ok (.istore 4, 2) := by decide +kernel
theorem dX1_best_15 : decode cX1_best 15 = .ok (.iload 4, 2) := by decide +kernel
theorem dX1_best_17 : decode cX1_best 17 = .ok (.iconst 2, 1) := by decide +kernel
theorem dX1_best_18 : decode cX1_best 18 = .ok (.if_icmp .ge 36, 3) := by decide +kernel
theorem dX1_best_21 : decode cX1_best 21 = .ok (.aload_n 0, 1) := by decide +kernel
theorem dX1_best_22 : decode cX1_best 22 = .ok (.iload_n 1, 1) := by decide +kernel
theorem dX1_best_23 : decode cX1_best 23 = .ok (.iload 4, 2) := by decide +kernel
theorem dX1_best_25 : decode cX1_best 25 = .ok (.invokevirtual 37, 3) := by decide +kernel
theorem dX1_best_28 : decode cX1_best 28 = .ok (.aload_n 0, 1) := by decide +kernel
theorem dX1_best_29 : decode cX1_best 29 = .ok (.iload_n 1, 1) := by decide +kernel
theorem dX1_best_30 : decode cX1_best 30 = .ok (.iconst 1, 1) := by decide +kernel
theorem dX1_best_31 : decode cX1_best 31 = .ok (.iadd, 1) := by decide +kernel
theorem dX1_best_32 : decode cX1_best 32 = .ok (.invokevirtual 67, 3) := by decide +kernel
theorem dX1_best_35 : decode cX1_best 35 = .ok (.lconst 0, 1) := by decide +kernel
theorem dX1_best_36 : decode cX1_best 36 = .ok (.lcmp, 1) := by decide +kernel
theorem dX1_best_37 : decode cX1_best 37 = .ok (.ifCond .le 11, 3) := by decide +kernel
theorem dX1_best_40 : decode cX1_best 40 = .ok (.lload_n 2, 1) := by decide +kernel
theorem dX1_best_41 : decode cX1_best 41 = .ok (.aload_n 0, 1) := by decide +kernel
theorem dX1_best_42 : decode cX1_best 42 = .ok (.iload_n 1, 1) := by decide +kernel
theorem dX1_best_43 : decode cX1_best 43 = .ok (.invokevirtual 117, 3) := by decide +kernel
theorem dX1_best_46 : decode cX1_best 46 = .ok (.ladd, 1) := by decide +kernel
theorem dX1_best_47 : decode cX1_best 47 = .ok (.lstore_n 2, 1) := by decide +kernel
theorem dX1_best_48 : decode cX1_best 48 = .ok (.iinc 4 1, 3) := by decide +kernel
theorem dX1_best_51 : decode cX1_best 51 = .ok (.goto (-36), 3) := by decide +kernel
theorem dX1_best_54 : decode cX1_best 54 = .ok (.lload_n 2, 1) := by decide +kernel
theorem dX1_best_55 : decode cX1_best 55 = .ok (.lreturn, 1) := by decide +kernel
set_option maxRecDepth 100000 in
theorem ggX1_bestMove_X6_held : GoodIn wsX1_bestMove wsX6_held := goodIn_r _ [8, 9, 10, 4, 11, 12, 13, 14] rfl (by decide +kernel)
set_option maxRecDepth 100000 in
theorem gX1_bestMove_X6_held_n84 : GoodIn wsX1_bestMove (wsX6_held) := ggX1_bestMove_X6_held
set_option maxRecDepth 100000 in
theorem ggX1_bestMove_X1_settle : GoodIn wsX1_bestMove wsX1_settle := goodIn_r _ [19, 1, 20, 6, 7, 8, 9, 10, 4, 11, 12, 13, 14, 71, 72, 73, 74, 75, 76, 77] rfl (by decide +kernel)
set_option maxRecDepth 100000 in
theorem gX1_bestMove_X1_settle : GoodIn wsX1_bestMove (wsV RX1 45 RX1 yX1_settle wsX1_settle) := goodIn_app (goodIn_of _ (by decide +kernel)) ggX1_bestMove_X1_settle
set_option maxRecDepth 100000 in
theorem ggX1_bestMove_X1_best : GoodIn wsX1_bestMove wsX1_best := goodIn_r _ [24, 25, 26, 27, 18, 28, 29, 30, 1, 20, 31, 32, 33, 34, 35, 36, 37, 38, 13, 4, 14, 39, 10, 11, 40, 41, 42, 43, 44, 45, 46, 47, 48, 49, 50, 51, 52, 53, 54, 55, 56, 57, 58, 59, 60, 61, 62, 63, 64, 65, 66, 67, 68, 69, 70, 0, 2, 3, 5, 6, 7, 8, 9, 12, 15, 16, 17, 19, 21, 22, 23, 71, 72, 73, 74, 75, 76, 77, 78, 79, 80, 81, 82, 83, 84, 85] rfl (by decide +kernel)
set_option maxRecDepth 100000 in
theorem gX1_bestMove_X1_best : GoodIn wsX1_bestMove (wsV RX1 120 RX1 yX1_best wsX1_best) := goodIn_app (goodIn_of _ (by decide +kernel)) ggX1_bestMove_X1_best
theorem dX1_bestMove_0 : decode cX1_bestMove 0 = .ok (.iload_n 1, 1) := by decide +kernel
theorem dX1_bestMove_1 : decode cX1_bestMove 1 = .ok (.ifCond .lt 8, 3) := by decide +kernel
theorem dX1_bestMove_4 : decode cX1_bestMove 4 = .ok (.iload_n 1, 1) := by decide +kernel
theorem dX1_bestMove_5 : decode cX1_bestMove 5 = .ok (.iconst 5, 1) := by decide +kernel
theorem dX1_bestMove_6 : decode cX1_bestMove 6 = .ok (.if_icmp .lt 5, 3) := by decide +kernel
theorem dX1_bestMove_9 : decode cX1_bestMove 9 = .ok (.lconst 0, 1) := by decide +kernel
theorem dX1_bestMove_10 : decode cX1_bestMove 10 = .ok (.lreturn, 1) := by decide +kernel
theorem dX1_bestMove_11 : decode cX1_bestMove 11 = .ok (.lconst 0, 1) := by decide +kernel
theorem dX1_bestMove_12 : decode cX1_bestMove 12 = .ok (.lstore_n 2, 1) := by decide +kernel
theorem dX1_bestMove_13 : decode cX1_bestMove 13 = .ok (.iconst (-1), 1) := by decide +kernel
theorem dX1_bestMove_14 : decode cX1_bestMove 14 = .ok (.istore 4, 2) := by decide +kernel
theorem dX1_bestMove_16 : decode cX1_bestMove 16 = .ok (.iload 4, 2) := by decide +kernel
theorem dX1_bestMove_18 : decode cX1_bestMove 18 = .ok (.iconst 1, 1) := by decide +kernel
theorem dX1_bestMove_19 : decode cX1_bestMove 19 = .ok (.if_icmp .gt 54, 3) := by decide +kernel
theorem dX1_bestMove_22 : decode cX1_bestMove 22 = .ok (.iload 4, 2) := by decide +kernel
theorem dX1_bestMove_24 : decode cX1_bestMove 24 = .ok (.ifCond .eq 24, 3) := by decide +kernel
theorem dX1_bestMove_27 : decode cX1_bestMove 27 = .ok (.aload_n 0, 1) := by decide +kernel
theorem dX1_bestMove_28 : decode cX1_bestMove 28 = .ok (.getfield 16, 3) := by decide +kernel
theorem dX1_bestMove_31 : decode cX1_bestMove 31 = .ok (.iload_n 1, 1) := by decide +kernel
theorem dX1_bestMove_32 : decode cX1_bestMove 32 = .ok (.iaload, 1) := by decide +kernel
theorem dX1_bestMove_33 : decode cX1_bestMove 33 = .ok (.iload 4, 2) := by decide +kernel
theorem dX1_bestMove_35 : decode cX1_bestMove 35 = .ok (.iadd, 1) := by decide +kernel
theorem dX1_bestMove_36 : decode cX1_bestMove 36 = .ok (.invokestatic 84, 3) := by decide +kernel
theorem dX1_bestMove_39 : decode cX1_bestMove 39 = .ok (.aload_n 0, 1) := by decide +kernel
theorem dX1_bestMove_40 : decode cX1_bestMove 40 = .ok (.getfield 16, 3) := by decide +kernel
theorem dX1_bestMove_43 : decode cX1_bestMove 43 = .ok (.iload_n 1, 1) := by decide +kernel
theorem dX1_bestMove_44 : decode cX1_bestMove 44 = .ok (.iaload, 1) := by decide +kernel
theorem dX1_bestMove_45 : decode cX1_bestMove 45 = .ok (.if_icmp .eq 22, 3) := by decide +kernel
theorem dX1_bestMove_48 : decode cX1_bestMove 48 = .ok (.aload_n 0, 1) := by decide +kernel
theorem dX1_bestMove_49 : decode cX1_bestMove 49 = .ok (.iload_n 1, 1) := by decide +kernel
theorem dX1_bestMove_50 : decode cX1_bestMove 50 = .ok (.iload 4, 2) := by decide +kernel
theorem dX1_bestMove_52 : decode cX1_bestMove 52 = .ok (.invokevirtual 45, 3) := by decide +kernel
theorem dX1_bestMove_55 : decode cX1_bestMove 55 = .ok (.lload_n 2, 1) := by decide +kernel
theorem dX1_bestMove_56 : decode cX1_bestMove 56 = .ok (.aload_n 0, 1) := by decide +kernel
theorem dX1_bestMove_57 : decode cX1_bestMove 57 = .ok (.iload_n 1, 1) := by decide +kernel
theorem dX1_bestMove_58 : decode cX1_bestMove 58 = .ok (.iconst 1, 1) := by decide +kernel
theorem dX1_bestMove_59 : decode cX1_bestMove 59 = .ok (.iadd, 1) := by decide +kernel
theorem dX1_bestMove_60 : decode cX1_bestMove 60 = .ok (.invokevirtual 120, 3) := by decide +kernel
theorem dX1_bestMove_63 : decode cX1_bestMove 63 = .ok (.invokestatic 123, 3) := by decide +kernel
theorem dX1_bestMove_66 : decode cX1_bestMove 66 = .ok (.lstore_n 2, 1) := by decide +kernel
theorem dX1_bestMove_67 : decode cX1_bestMove 67 = .ok (.iinc 4 1, 3) := by decide +kernel
theorem dX1_bestMove_70 : decode cX1_bestMove 70 = .ok (.goto (-54), 3) := by decide +kernel
theorem dX1_bestMove_73 : decode cX1_bestMove 73 = .ok (.lload_n 2, 1) := by decide +kernel
theorem dX1_bestMove_74 : decode cX1_bestMove 74 = .ok (.lreturn, 1) := by decide +kernel
set_option maxRecDepth 100000 in
theorem ggX1_endsNow_X0_asks : GoodIn wsX1_endsNow wsX0_asks := goodIn_r _ [8, 9, 10, 11, 12, 13, 14, 15, 16, 17, 18, 19, 20, 21, 6, 22, 23, 24, 25, 26, 27, 35, 36, 37, 38, 39, 40, 41, 42] rfl (by decide +kernel)
set_option maxRecDepth 100000 in
theorem gX1_endsNow_X0_asks_n76 : GoodIn wsX1_endsNow (wsX0_asks) := ggX1_endsNow_X0_asks
theorem dX1_endsNow_0 : decode cX1_endsNow 0 = .ok (.lconst 0, 1) := by decide +kernel
theorem dX1_endsNow_1 : decode cX1_endsNow 1 = .ok (.lstore_n 1, 1) := by decide +kernel
theorem dX1_endsNow_2 : decode cX1_endsNow 2 = .ok (.iconst 0, 1) := by decide +kernel
theorem dX1_endsNow_3 : decode cX1_endsNow 3 = .ok (.istore_n 3, 1) := by decide +kernel
theorem dX1_endsNow_4 : decode cX1_endsNow 4 = .ok (.iload_n 3, 1) := by decide +kernel
theorem dX1_endsNow_5 : decode cX1_endsNow 5 = .ok (.iconst 5, 1) := by decide +kernel
theorem dX1_endsNow_6 : decode cX1_endsNow 6 = .ok (.if_icmp .ge 44, 3) := by decide +kernel
theorem dX1_endsNow_9 : decode cX1_endsNow 9 = .ok (.lload_n 1, 1) := by decide +kernel
theorem dX1_endsNow_10 : decode cX1_endsNow 10 = .ok (.aload_n 0, 1) := by decide +kernel
theorem dX1_endsNow_11 : decode cX1_endsNow 11 = .ok (.getfield 11, 3) := by decide +kernel
theorem dX1_endsNow_14 : decode cX1_endsNow 14 = .ok (.iconst 5, 1) := by decide +kernel
theorem dX1_endsNow_15 : decode cX1_endsNow 15 = .ok (.aaload, 1) := by decide +kernel
theorem dX1_endsNow_16 : decode cX1_endsNow 16 = .ok (.iload_n 3, 1) := by decide +kernel
theorem dX1_endsNow_17 : decode cX1_endsNow 17 = .ok (.laload, 1) := by decide +kernel
theorem dX1_endsNow_18 : decode cX1_endsNow 18 = .ok (.aload_n 0, 1) := by decide +kernel
theorem dX1_endsNow_19 : decode cX1_endsNow 19 = .ok (.getfield 33, 3) := by decide +kernel
theorem dX1_endsNow_22 : decode cX1_endsNow 22 = .ok (.iconst 2, 1) := by decide +kernel
theorem dX1_endsNow_23 : decode cX1_endsNow 23 = .ok (.iload_n 3, 1) := by decide +kernel
theorem dX1_endsNow_24 : decode cX1_endsNow 24 = .ok (.aload_n 0, 1) := by decide +kernel
theorem dX1_endsNow_25 : decode cX1_endsNow 25 = .ok (.getfield 16, 3) := by decide +kernel
theorem dX1_endsNow_28 : decode cX1_endsNow 28 = .ok (.iconst 5, 1) := by decide +kernel
theorem dX1_endsNow_29 : decode cX1_endsNow 29 = .ok (.iaload, 1) := by decide +kernel
theorem dX1_endsNow_30 : decode cX1_endsNow 30 = .ok (.iconst 5, 1) := by decide +kernel
theorem dX1_endsNow_31 : decode cX1_endsNow 31 = .ok (.aload_n 0, 1) := by decide +kernel
theorem dX1_endsNow_32 : decode cX1_endsNow 32 = .ok (.getfield 20, 3) := by decide +kernel
theorem dX1_endsNow_35 : decode cX1_endsNow 35 = .ok (.iconst 5, 1) := by decide +kernel
theorem dX1_endsNow_36 : decode cX1_endsNow 36 = .ok (.iaload, 1) := by decide +kernel
theorem dX1_endsNow_37 : decode cX1_endsNow 37 = .ok (.invokevirtual 76, 3) := by decide +kernel
theorem dX1_endsNow_40 : decode cX1_endsNow 40 = .ok (.i2l, 1) := by decide +kernel
theorem dX1_endsNow_41 : decode cX1_endsNow 41 = .ok (.lmul, 1) := by decide +kernel
theorem dX1_endsNow_42 : decode cX1_endsNow 42 = .ok (.ladd, 1) := by decide +kernel
theorem dX1_endsNow_43 : decode cX1_endsNow 43 = .ok (.lstore_n 1, 1) := by decide +kernel
theorem dX1_endsNow_44 : decode cX1_endsNow 44 = .ok (.iinc 3 1, 3) := by decide +kernel
theorem dX1_endsNow_47 : decode cX1_endsNow 47 = .ok (.goto (-43), 3) := by decide +kernel
theorem dX1_endsNow_50 : decode cX1_endsNow 50 = .ok (.lload_n 1, 1) := by decide +kernel
theorem dX1_endsNow_51 : decode cX1_endsNow 51 = .ok (.lreturn, 1) := by decide +kernel
theorem dX2_init_0 : decode cX2_init 0 = .ok (.aload_n 0, 1) := by decide +kernel
theorem dX2_init_1 : decode cX2_init 1 = .ok (.invokespecial 3, 3) := by decide +kernel
theorem dX2_init_4 : decode cX2_init 4 = .ok (.aload_n 0, 1) := by decide +kernel
theorem dX2_init_5 : decode cX2_init 5 = .ok (.iconst 5, 1) := by decide +kernel
theorem dX2_init_6 : decode cX2_init 6 = .ok (.newarray .int, 2) := by decide +kernel
theorem dX2_init_8 : decode cX2_init 8 = .ok (.putfield 9, 3) := by decide +kernel
theorem dX2_init_11 : decode cX2_init 11 = .ok (.aload_n 0, 1) := by decide +kernel
theorem dX2_init_12 : decode cX2_init 12 = .ok (.iconst 0, 1) := by decide +kernel
theorem dX2_init_13 : decode cX2_init 13 = .ok (.putfield 15, 3) := by decide +kernel
theorem dX2_init_16 : decode cX2_init 16 = .ok (.aload_n 0, 1) := by decide +kernel
theorem dX2_init_17 : decode cX2_init 17 = .ok (.iconst 5, 1) := by decide +kernel
theorem dX2_init_18 : decode cX2_init 18 = .ok (.newarray .int, 2) := by decide +kernel
theorem dX2_init_20 : decode cX2_init 20 = .ok (.putfield 19, 3) := by decide +kernel
theorem dX2_init_23 : decode cX2_init 23 = .ok (.aload_n 0, 1) := by decide +kernel
theorem dX2_init_24 : decode cX2_init 24 = .ok (.iload_n 1, 1) := by decide +kernel
theorem dX2_init_25 : decode cX2_init 25 = .ok (.putfield 22, 3) := by decide +kernel
theorem dX2_init_28 : decode cX2_init 28 = .ok (.aload_n 0, 1) := by decide +kernel
theorem dX2_init_29 : decode cX2_init 29 = .ok (.iload_n 2, 1) := by decide +kernel
theorem dX2_init_30 : decode cX2_init 30 = .ok (.putfield 25, 3) := by decide +kernel
theorem dX2_init_33 : decode cX2_init 33 = .ok (.aload_n 0, 1) := by decide +kernel
theorem dX2_init_34 : decode cX2_init 34 = .ok (.iload_n 3, 1) := by decide +kernel
theorem dX2_init_35 : decode cX2_init 35 = .ok (.putfield 28, 3) := by decide +kernel
theorem dX2_init_38 : decode cX2_init 38 = .ok (.aload_n 0, 1) := by decide +kernel
theorem dX2_init_39 : decode cX2_init 39 = .ok (.iload 4, 2) := by decide +kernel
theorem dX2_init_41 : decode cX2_init 41 = .ok (.putfield 31, 3) := by decide +kernel
theorem dX2_init_44 : decode cX2_init 44 = .ok (.aload_n 0, 1) := by decide +kernel
theorem dX2_init_45 : decode cX2_init 45 = .ok (.getfield 9, 3) := by decide +kernel
theorem dX2_init_48 : decode cX2_init 48 = .ok (.iconst 0, 1) := by decide +kernel
theorem dX2_init_49 : decode cX2_init 49 = .ok (.iconst 1, 1) := by decide +kernel
theorem dX2_init_50 : decode cX2_init 50 = .ok (.iastore, 1) := by decide +kernel
theorem dX2_init_51 : decode cX2_init 51 = .ok (.return_, 1) := by decide +kernel
theorem dX2_together_0 : decode cX2_together 0 = .ok (.iconst 0, 1) := by decide +kernel
theorem dX2_together_1 : decode cX2_together 1 = .ok (.istore_n 1, 1) := by decide +kernel
theorem dX2_together_2 : decode cX2_together 2 = .ok (.iconst 0, 1) := by decide +kernel
theorem dX2_together_3 : decode cX2_together 3 = .ok (.istore_n 2, 1) := by decide +kernel
theorem dX2_together_4 : decode cX2_together 4 = .ok (.iload_n 2, 1) := by decide +kernel
theorem dX2_together_5 : decode cX2_together 5 = .ok (.iconst 5, 1) := by decide +kernel
theorem dX2_together_6 : decode cX2_together 6 = .ok (.if_icmp .ge 18, 3) := by decide +kernel
theorem dX2_together_9 : decode cX2_together 9 = .ok (.iload_n 1, 1) := by decide +kernel
theorem dX2_together_10 : decode cX2_together 10 = .ok (.aload_n 0, 1) := by decide +kernel
theorem dX2_together_11 : decode cX2_together 11 = .ok (.getfield 9, 3) := by decide +kernel
theorem dX2_together_14 : decode cX2_together 14 = .ok (.iload_n 2, 1) := by decide +kernel
theorem dX2_together_15 : decode cX2_together 15 = .ok (.iaload, 1) := by decide +kernel
theorem dX2_together_16 : decode cX2_together 16 = .ok (.iadd, 1) := by decide +kernel
theorem dX2_together_17 : decode cX2_together 17 = .ok (.istore_n 1, 1) := by decide +kernel
theorem dX2_together_18 : decode cX2_together 18 = .ok (.iinc 2 1, 3) := by decide +kernel
theorem dX2_together_21 : decode cX2_together 21 = .ok (.goto (-17), 3) := by decide +kernel
theorem dX2_together_24 : decode cX2_together 24 = .ok (.iload_n 1, 1) := by decide +kernel
theorem dX2_together_25 : decode cX2_together 25 = .ok (.ireturn, 1) := by decide +kernel
set_option maxRecDepth 100000 in
theorem ggX2_takes_X6_common : GoodIn wsX2_takes wsX6_common := goodIn_r _ [5] rfl (by decide +kernel)
set_option maxRecDepth 100000 in
theorem gX2_takes_X6_common_n34 : GoodIn wsX2_takes (wsX6_common) := ggX2_takes_X6_common
theorem dX2_takes_0 : decode cX2_takes 0 = .ok (.lconst 0, 1) := by decide +kernel
theorem dX2_takes_1 : decode cX2_takes 1 = .ok (.lstore_n 2, 1) := by decide +kernel
theorem dX2_takes_2 : decode cX2_takes 2 = .ok (.lconst 0, 1) := by decide +kernel
theorem dX2_takes_3 : decode cX2_takes 3 = .ok (.lstore 4, 2) := by decide +kernel
theorem dX2_takes_5 : decode cX2_takes 5 = .ok (.iconst 0, 1) := by decide +kernel
theorem dX2_takes_6 : decode cX2_takes 6 = .ok (.istore 6, 2) := by decide +kernel
theorem dX2_takes_8 : decode cX2_takes 8 = .ok (.iload 6, 2) := by decide +kernel
theorem dX2_takes_10 : decode cX2_takes 10 = .ok (.iconst 5, 1) := by decide +kernel
theorem dX2_takes_11 : decode cX2_takes 11 = .ok (.if_icmp .ge 27, 3) := by decide +kernel
theorem dX2_takes_14 : decode cX2_takes 14 = .ok (.lload_n 2, 1) := by decide +kernel
theorem dX2_takes_15 : decode cX2_takes 15 = .ok (.aload_n 1, 1) := by decide +kernel
theorem dX2_takes_16 : decode cX2_takes 16 = .ok (.iload 6, 2) := by decide +kernel
theorem dX2_takes_18 : decode cX2_takes 18 = .ok (.laload, 1) := by decide +kernel
theorem dX2_takes_19 : decode cX2_takes 19 = .ok (.invokestatic 34, 3) := by decide +kernel
theorem dX2_takes_22 : decode cX2_takes 22 = .ok (.lstore_n 2, 1) := by decide +kernel
theorem dX2_takes_23 : decode cX2_takes 23 = .ok (.lload 4, 2) := by decide +kernel
theorem dX2_takes_25 : decode cX2_takes 25 = .ok (.aload_n 1, 1) := by decide +kernel
theorem dX2_takes_26 : decode cX2_takes 26 = .ok (.iload 6, 2) := by decide +kernel
theorem dX2_takes_28 : decode cX2_takes 28 = .ok (.laload, 1) := by decide +kernel
theorem dX2_takes_29 : decode cX2_takes 29 = .ok (.ladd, 1) := by decide +kernel
theorem dX2_takes_30 : decode cX2_takes 30 = .ok (.lstore 4, 2) := by decide +kernel
theorem dX2_takes_32 : decode cX2_takes 32 = .ok (.iinc 6 1, 3) := by decide +kernel
theorem dX2_takes_35 : decode cX2_takes 35 = .ok (.goto (-27), 3) := by decide +kernel
theorem dX2_takes_38 : decode cX2_takes 38 = .ok (.lload_n 2, 1) := by decide +kernel
theorem dX2_takes_39 : decode cX2_takes 39 = .ok (.lconst 0, 1) := by decide +kernel
theorem dX2_takes_40 : decode cX2_takes 40 = .ok (.lcmp, 1) := by decide +kernel
theorem dX2_takes_41 : decode cX2_takes 41 = .ok (.ifCond .eq 14, 3) := by decide +kernel
theorem dX2_takes_44 : decode cX2_takes 44 = .ok (.lload 4, 2) := by decide +kernel
theorem dX2_takes_46 : decode cX2_takes 46 = .ok (.lload_n 2, 1) := by decide +kernel
theorem dX2_takes_47 : decode cX2_takes 47 = .ok (.ldiv, 1) := by decide +kernel
theorem dX2_takes_48 : decode cX2_takes 48 = .ok (.ldc2_w 38, 3) := by decide +kernel
theorem dX2_takes_51 : decode cX2_takes 51 = .ok (.lcmp, 1) := by decide +kernel
theorem dX2_takes_52 : decode cX2_takes 52 = .ok (.ifCond .le 5, 3) := by decide +kernel
theorem dX2_takes_55 : decode cX2_takes 55 = .ok (.iconst 0, 1) := by decide +kernel
theorem dX2_takes_56 : decode cX2_takes 56 = .ok (.ireturn, 1) := by decide +kernel
theorem dX2_takes_57 : decode cX2_takes 57 = .ok (.iconst 0, 1) := by decide +kernel
theorem dX2_takes_58 : decode cX2_takes 58 = .ok (.istore 6, 2) := by decide +kernel
theorem dX2_takes_60 : decode cX2_takes 60 = .ok (.iload 6, 2) := by decide +kernel
theorem dX2_takes_62 : decode cX2_takes 62 = .ok (.iconst 5, 1) := by decide +kernel
theorem dX2_takes_63 : decode cX2_takes 63 = .ok (.if_icmp .ge 23, 3) := by decide +kernel
theorem dX2_takes_66 : decode cX2_takes 66 = .ok (.aload_n 0, 1) := by decide +kernel
theorem dX2_takes_67 : decode cX2_takes 67 = .ok (.getfield 9, 3) := by decide +kernel
theorem dX2_takes_70 : decode cX2_takes 70 = .ok (.iload 6, 2) := by decide +kernel
theorem dX2_takes_72 : decode cX2_takes 72 = .ok (.aload_n 1, 1) := by decide +kernel
theorem dX2_takes_73 : decode cX2_takes 73 = .ok (.iload 6, 2) := by decide +kernel
theorem dX2_takes_75 : decode cX2_takes 75 = .ok (.laload, 1) := by decide +kernel
theorem dX2_takes_76 : decode cX2_takes 76 = .ok (.lload_n 2, 1) := by decide +kernel
theorem dX2_takes_77 : decode cX2_takes 77 = .ok (.ldiv, 1) := by decide +kernel
theorem dX2_takes_78 : decode cX2_takes 78 = .ok (.l2i, 1) := by decide +kernel
theorem dX2_takes_79 : decode cX2_takes 79 = .ok (.iastore, 1) := by decide +kernel
theorem dX2_takes_80 : decode cX2_takes 80 = .ok (.iinc 6 1, 3) := by decide +kernel
theorem dX2_takes_83 : decode cX2_takes 83 = .ok (.goto (-23), 3) := by decide +kernel
theorem dX2_takes_86 : decode cX2_takes 86 = .ok (.iconst 1, 1) := by decide +kernel
theorem dX2_takes_87 : decode cX2_takes 87 = .ok (.ireturn, 1) := by decide +kernel
theorem dX2_keep_0 : decode cX2_keep 0 = .ok (.aload_n 0, 1) := by decide +kernel
theorem dX2_keep_1 : decode cX2_keep 1 = .ok (.aload_n 0, 1) := by decide +kernel
theorem dX2_keep_2 : decode cX2_keep 2 = .ok (.getfield 25, 3) := by decide +kernel
theorem dX2_keep_5 : decode cX2_keep 5 = .ok (.putfield 15, 3) := by decide +kernel
theorem dX2_keep_8 : decode cX2_keep 8 = .ok (.aload_n 0, 1) := by decide +kernel
theorem dX2_keep_9 : decode cX2_keep 9 = .ok (.getfield 9, 3) := by decide +kernel
theorem dX2_keep_12 : decode cX2_keep 12 = .ok (.iconst 0, 1) := by decide +kernel
theorem dX2_keep_13 : decode cX2_keep 13 = .ok (.aload_n 0, 1) := by decide +kernel
theorem dX2_keep_14 : decode cX2_keep 14 = .ok (.getfield 19, 3) := by decide +kernel
theorem dX2_keep_17 : decode cX2_keep 17 = .ok (.iconst 0, 1) := by decide +kernel
theorem dX2_keep_18 : decode cX2_keep 18 = .ok (.iconst 5, 1) := by decide +kernel
theorem dX2_keep_19 : decode cX2_keep 19 = .ok (.invokestatic 40, 3) := by decide +kernel
theorem dX2_keep_22 : decode cX2_keep 22 = .ok (.return_, 1) := by decide +kernel
theorem dX2_lay_0 : decode cX2_lay 0 = .ok (.aload_n 0, 1) := by decide +kernel
theorem dX2_lay_1 : decode cX2_lay 1 = .ok (.aload_n 0, 1) := by decide +kernel
theorem dX2_lay_2 : decode cX2_lay 2 = .ok (.getfield 15, 3) := by decide +kernel
theorem dX2_lay_5 : decode cX2_lay 5 = .ok (.putfield 25, 3) := by decide +kernel
theorem dX2_lay_8 : decode cX2_lay 8 = .ok (.aload_n 0, 1) := by decide +kernel
theorem dX2_lay_9 : decode cX2_lay 9 = .ok (.getfield 19, 3) := by decide +kernel
theorem dX2_lay_12 : decode cX2_lay 12 = .ok (.iconst 0, 1) := by decide +kernel
theorem dX2_lay_13 : decode cX2_lay 13 = .ok (.aload_n 0, 1) := by decide +kernel
theorem dX2_lay_14 : decode cX2_lay 14 = .ok (.getfield 9, 3) := by decide +kernel
theorem dX2_lay_17 : decode cX2_lay 17 = .ok (.iconst 0, 1) := by decide +kernel
theorem dX2_lay_18 : decode cX2_lay 18 = .ok (.iconst 5, 1) := by decide +kernel
theorem dX2_lay_19 : decode cX2_lay 19 = .ok (.invokestatic 40, 3) := by decide +kernel
theorem dX2_lay_22 : decode cX2_lay 22 = .ok (.return_, 1) := by decide +kernel
theorem dX3_init_0 : decode cX3_init 0 = .ok (.aload_n 0, 1) := by decide +kernel
theorem dX3_init_1 : decode cX3_init 1 = .ok (.invokespecial 5, 3) := by decide +kernel
theorem dX3_init_4 : decode cX3_init 4 = .ok (.aload_n 0, 1) := by decide +kernel
theorem dX3_init_5 : decode cX3_init 5 = .ok (.iconst 0, 1) := by decide +kernel
theorem dX3_init_6 : decode cX3_init 6 = .ok (.putfield 11, 3) := by decide +kernel
theorem dX3_init_9 : decode cX3_init 9 = .ok (.aload_n 0, 1) := by decide +kernel
theorem dX3_init_10 : decode cX3_init 10 = .ok (.iconst 0, 1) := by decide +kernel
theorem dX3_init_11 : decode cX3_init 11 = .ok (.putfield 15, 3) := by decide +kernel
theorem dX3_init_14 : decode cX3_init 14 = .ok (.aload_n 0, 1) := by decide +kernel
theorem dX3_init_15 : decode cX3_init 15 = .ok (.iconst 0, 1) := by decide +kernel
theorem dX3_init_16 : decode cX3_init 16 = .ok (.putfield 18, 3) := by decide +kernel
theorem dX3_init_19 : decode cX3_init 19 = .ok (.aload_n 0, 1) := by decide +kernel
theorem dX3_init_20 : decode cX3_init 20 = .ok (.iconst 0, 1) := by decide +kernel
theorem dX3_init_21 : decode cX3_init 21 = .ok (.putfield 21, 3) := by decide +kernel
theorem dX3_init_24 : decode cX3_init 24 = .ok (.aload_n 0, 1) := by decide +kernel
theorem dX3_init_25 : decode cX3_init 25 = .ok (.iconst (-1), 1) := by decide +kernel
theorem dX3_init_26 : decode cX3_init 26 = .ok (.putfield 24, 3) := by decide +kernel
theorem dX3_init_29 : decode cX3_init 29 = .ok (.aload_n 0, 1) := by decide +kernel
theorem dX3_init_30 : decode cX3_init 30 = .ok (.iconst 0, 1) := by decide +kernel
theorem dX3_init_31 : decode cX3_init 31 = .ok (.putfield 27, 3) := by decide +kernel
theorem dX3_init_34 : decode cX3_init 34 = .ok (.aload_n 0, 1) := by decide +kernel
theorem dX3_init_35 : decode cX3_init 35 = .ok (.sipush 160, 3) := by decide +kernel
theorem dX3_init_38 : decode cX3_init 38 = .ok (.newarray .int, 2) := by decide +kernel
theorem dX3_init_40 : decode cX3_init 40 = .ok (.putfield 30, 3) := by decide +kernel
theorem dX3_init_43 : decode cX3_init 43 = .ok (.aload_n 0, 1) := by decide +kernel
theorem dX3_init_44 : decode cX3_init 44 = .ok (.iconst 0, 1) := by decide +kernel
theorem dX3_init_45 : decode cX3_init 45 = .ok (.putfield 34, 3) := by decide +kernel
theorem dX3_init_48 : decode cX3_init 48 = .ok (.aload_n 0, 1) := by decide +kernel
theorem dX3_init_49 : decode cX3_init 49 = .ok (.iconst 4, 1) := by decide +kernel
theorem dX3_init_50 : decode cX3_init 50 = .ok (.newarray .int, 2) := by decide +kernel
theorem dX3_init_52 : decode cX3_init 52 = .ok (.putfield 37, 3) := by decide +kernel
theorem dX3_init_55 : decode cX3_init 55 = .ok (.aload_n 0, 1) := by decide +kernel
theorem dX3_init_56 : decode cX3_init 56 = .ok (.aload_n 1, 1) := by decide +kernel
theorem dX3_init_57 : decode cX3_init 57 = .ok (.putfield 40, 3) := by decide +kernel
theorem dX3_init_60 : decode cX3_init 60 = .ok (.return_, 1) := by decide +kernel
set_option maxRecDepth 100000 in
theorem ggX3_read_X3_advance : GoodIn wsX3_read wsX3_advance := goodIn_r _ [16, 8, 7, 6, 1, 17, 18, 19, 20, 15, 21, 22, 23, 24, 25, 26, 27, 28, 29, 30, 31, 32, 33, 34, 35, 36, 37, 38, 39, 40, 41, 42, 43, 44, 45, 46, 47, 48, 49, 50, 51, 52, 53, 54, 55, 56, 57, 58, 59, 60, 61, 62, 63, 64, 65, 66, 67, 68, 69, 70, 71, 72, 73, 74, 75, 76, 77, 78, 79, 80, 81, 82, 83, 84, 85, 86, 87, 88, 130, 131, 132, 133, 134, 135, 136, 137, 138, 139] rfl (by decide +kernel)
set_option maxRecDepth 100000 in
theorem gX3_read_X3_advance : GoodIn wsX3_read (wsV RX3 50 RX3 yX3_advance wsX3_advance) := goodIn_app (goodIn_of _ (by decide +kernel)) ggX3_read_X3_advance
set_option maxRecDepth 100000 in
theorem ggX3_read_X3_take : GoodIn wsX3_read wsX3_take := goodIn_r _ [92, 18, 12, 13, 14, 15, 16, 8, 7, 6, 1, 17, 19, 20, 21, 22, 23, 24, 25, 26, 27, 28, 29, 30, 31, 32, 33, 34, 35, 36, 37, 38, 39, 40, 41, 42, 43, 44, 45, 46, 47, 48, 49, 50, 51, 52, 53, 54, 55, 56, 57, 58, 59, 60, 61, 62, 63, 64, 65, 66, 67, 68, 69, 70, 71, 72, 73, 74, 75, 76, 77, 78, 79, 80, 81, 82, 83, 84, 85, 86, 87, 88, 93, 94, 95, 96, 130, 131, 132, 133, 134, 135, 136, 137, 138, 139] rfl (by decide +kernel)
set_option maxRecDepth 100000 in
theorem gX3_read_X3_take : GoodIn wsX3_read (wsV RX3 53 RX3 yX3_take wsX3_take) := goodIn_app (goodIn_of _ (by decide +kernel)) ggX3_read_X3_take
set_option maxRecDepth 100000 in
theorem ggX3_read_X3_readOr : GoodIn wsX3_read wsX3_readOr := goodIn_r _ [100, 18, 101, 102, 103, 15, 12, 13, 14, 16, 8, 7, 6, 1, 17, 19, 20, 21, 22, 23, 24, 25, 26, 27, 28, 29, 30, 31, 32, 33, 34, 35, 36, 37, 38, 39, 40, 41, 42, 43, 44, 45, 46, 47, 48, 49, 50, 51, 52, 53, 54, 55, 56, 57, 58, 59, 60, 61, 62, 63, 64, 65, 66, 67, 68, 69, 70, 71, 72, 73, 74, 75, 76, 77, 78, 79, 80, 81, 82, 83, 84, 85, 86, 87, 88, 104, 105, 106, 107, 10, 108, 109, 110, 111, 112, 113, 9, 114, 115, 116, 117, 93, 94, 95, 96, 118, 119, 120, 121, 122, 123, 124, 97, 98, 99, 89, 90, 91, 92, 125, 126, 127, 128, 129, 130, 131, 132, 133, 134, 135, 136, 137, 138, 139] rfl (by decide +kernel)
set_option maxRecDepth 100000 in
theorem gX3_read_X3_readOr : GoodIn wsX3_read (wsV RX3 57 RX3 yX3_readOr wsX3_readOr) := goodIn_app (goodIn_of _ (by decide +kernel)) ggX3_read_X3_readOr
theorem dX3_read_0 : decode cX3_read 0 = .ok (.aload_n 0, 1) := by decide +kernel
theorem dX3_read_1 : decode cX3_read 1 = .ok (.iload_n 1, 1) := by decide +kernel
theorem dX3_read_2 : decode cX3_read 2 = .ok (.aload_n 0, 1) := by decide +kernel
theorem dX3_read_3 : decode cX3_read 3 = .ok (.getfield 40, 3) := by decide +kernel
theorem dX3_read_6 : decode cX3_read 6 = .ok (.arraylength, 1) := by decide +kernel
theorem dX3_read_7 : decode cX3_read 7 = .ok (.invokestatic 44, 3) := by decide +kernel
theorem dX3_read_10 : decode cX3_read 10 = .ok (.putfield 11, 3) := by decide +kernel
theorem dX3_read_13 : decode cX3_read 13 = .ok (.aload_n 0, 1) := by decide +kernel
theorem dX3_read_14 : decode cX3_read 14 = .ok (.iconst 0, 1) := by decide +kernel
theorem dX3_read_15 : decode cX3_read 15 = .ok (.putfield 15, 3) := by decide +kernel
theorem dX3_read_18 : decode cX3_read 18 = .ok (.aload_n 0, 1) := by decide +kernel
theorem dX3_read_19 : decode cX3_read 19 = .ok (.iconst (-1), 1) := by decide +kernel
theorem dX3_read_20 : decode cX3_read 20 = .ok (.putfield 24, 3) := by decide +kernel
theorem dX3_read_23 : decode cX3_read 23 = .ok (.aload_n 0, 1) := by decide +kernel
theorem dX3_read_24 : decode cX3_read 24 = .ok (.iconst 0, 1) := by decide +kernel
theorem dX3_read_25 : decode cX3_read 25 = .ok (.putfield 27, 3) := by decide +kernel
theorem dX3_read_28 : decode cX3_read 28 = .ok (.aload_n 0, 1) := by decide +kernel
theorem dX3_read_29 : decode cX3_read 29 = .ok (.iconst 0, 1) := by decide +kernel
theorem dX3_read_30 : decode cX3_read 30 = .ok (.putfield 34, 3) := by decide +kernel
theorem dX3_read_33 : decode cX3_read 33 = .ok (.aload_n 0, 1) := by decide +kernel
theorem dX3_read_34 : decode cX3_read 34 = .ok (.invokevirtual 50, 3) := by decide +kernel
theorem dX3_read_37 : decode cX3_read 37 = .ok (.iconst 0, 1) := by decide +kernel
theorem dX3_read_38 : decode cX3_read 38 = .ok (.istore_n 2, 1) := by decide +kernel
theorem dX3_read_39 : decode cX3_read 39 = .ok (.iload_n 2, 1) := by decide +kernel
theorem dX3_read_40 : decode cX3_read 40 = .ok (.iconst 3, 1) := by decide +kernel
theorem dX3_read_41 : decode cX3_read 41 = .ok (.if_icmp .ge 38, 3) := by decide +kernel
theorem dX3_read_44 : decode cX3_read 44 = .ok (.aload_n 0, 1) := by decide +kernel
theorem dX3_read_45 : decode cX3_read 45 = .ok (.sipush 256, 3) := by decide +kernel
theorem dX3_read_48 : decode cX3_read 48 = .ok (.iload_n 2, 1) := by decide +kernel
theorem dX3_read_49 : decode cX3_read 49 = .ok (.iadd, 1) := by decide +kernel
theorem dX3_read_50 : decode cX3_read 50 = .ok (.invokevirtual 53, 3) := by decide +kernel
theorem dX3_read_53 : decode cX3_read 53 = .ok (.aload_n 0, 1) := by decide +kernel
theorem dX3_read_54 : decode cX3_read 54 = .ok (.getfield 37, 3) := by decide +kernel
theorem dX3_read_57 : decode cX3_read 57 = .ok (.iload_n 2, 1) := by decide +kernel
theorem dX3_read_58 : decode cX3_read 58 = .ok (.aload_n 0, 1) := by decide +kernel
theorem dX3_read_59 : decode cX3_read 59 = .ok (.getfield 34, 3) := by decide +kernel
theorem dX3_read_62 : decode cX3_read 62 = .ok (.iastore, 1) := by decide +kernel
theorem dX3_read_63 : decode cX3_read 63 = .ok (.aload_n 0, 1) := by decide +kernel
theorem dX3_read_64 : decode cX3_read 64 = .ok (.invokevirtual 57, 3) := by decide +kernel
theorem dX3_read_67 : decode cX3_read 67 = .ok (.aload_n 0, 1) := by decide +kernel
theorem dX3_read_68 : decode cX3_read 68 = .ok (.bipush 59, 2) := by decide +kernel
theorem dX3_read_70 : decode cX3_read 70 = .ok (.invokevirtual 53, 3) := by decide +kernel
theorem dX3_read_73 : decode cX3_read 73 = .ok (.iinc 2 1, 3) := by decide +kernel
theorem dX3_read_76 : decode cX3_read 76 = .ok (.goto (-37), 3) := by decide +kernel
theorem dX3_read_79 : decode cX3_read 79 = .ok (.aload_n 0, 1) := by decide +kernel
theorem dX3_read_80 : decode cX3_read 80 = .ok (.getfield 37, 3) := by decide +kernel
theorem dX3_read_83 : decode cX3_read 83 = .ok (.iconst 3, 1) := by decide +kernel
theorem dX3_read_84 : decode cX3_read 84 = .ok (.aload_n 0, 1) := by decide +kernel
theorem dX3_read_85 : decode cX3_read 85 = .ok (.getfield 34, 3) := by decide +kernel
theorem dX3_read_88 : decode cX3_read 88 = .ok (.iastore, 1) := by decide +kernel
theorem dX3_read_89 : decode cX3_read 89 = .ok (.aload_n 0, 1) := by decide +kernel
theorem dX3_read_90 : decode cX3_read 90 = .ok (.iconst 0, 1) := by decide +kernel
theorem dX3_read_91 : decode cX3_read 91 = .ok (.invokevirtual 53, 3) := by decide +kernel
theorem dX3_read_94 : decode cX3_read 94 = .ok (.aload_n 0, 1) := by decide +kernel
theorem dX3_read_95 : decode cX3_read 95 = .ok (.getfield 24, 3) := by decide +kernel
theorem dX3_read_98 : decode cX3_read 98 = .ok (.ireturn, 1) := by decide +kernel
set_option maxRecDepth 100000 in
theorem ggX3_made_J7_copyOf_59c91 : GoodIn wsX3_made wsJ7_copyOf_59c91 := goodIn_r _ [16, 17, 8, 9, 10, 11, 18, 19, 20, 21, 22, 23, 24, 25, 26, 27] rfl (by decide +kernel)
set_option maxRecDepth 100000 in
theorem gX3_made_J7_copyOf_59c91 : GoodIn wsX3_made (va_wsS RX3 62 yJ7_copyOf_59c91 wsJ7_copyOf_59c91) := goodIn_app (goodIn_of _ (by decide +kernel)) ggX3_made_J7_copyOf_59c91
set_option maxRecDepth 100000 in
theorem ggX3_made_X5_init : GoodIn wsX3_made wsX5_init := goodIn_r _ [29, 30, 31, 32, 33, 34, 35, 36] rfl (by decide +kernel)
set_option maxRecDepth 100000 in
theorem gX3_made_X5_init_n73 : GoodIn wsX3_made (wsX5_init) := ggX3_made_X5_init
theorem dX3_made_0 : decode cX3_made 0 = .ok (.new 60, 3) := by decide +kernel
theorem dX3_made_3 : decode cX3_made 3 = .ok (.dup, 1) := by decide +kernel
theorem dX3_made_4 : decode cX3_made 4 = .ok (.aload_n 0, 1) := by decide +kernel
theorem dX3_made_5 : decode cX3_made 5 = .ok (.getfield 30, 3) := by decide +kernel
theorem dX3_made_8 : decode cX3_made 8 = .ok (.aload_n 0, 1) := by decide +kernel
theorem dX3_made_9 : decode cX3_made 9 = .ok (.getfield 34, 3) := by decide +kernel
theorem dX3_made_12 : decode cX3_made 12 = .ok (.invokestatic 62, 3) := by decide +kernel
theorem dX3_made_15 : decode cX3_made 15 = .ok (.aload_n 0, 1) := by decide +kernel
theorem dX3_made_16 : decode cX3_made 16 = .ok (.getfield 37, 3) := by decide +kernel
theorem dX3_made_19 : decode cX3_made 19 = .ok (.invokevirtual 68, 3) := by decide +kernel
theorem dX3_made_22 : decode cX3_made 22 = .ok (.checkcast 69, 3) := by decide +kernel
theorem dX3_made_25 : decode cX3_made 25 = .ok (.invokespecial 73, 3) := by decide +kernel
theorem dX3_made_28 : decode cX3_made 28 = .ok (.areturn, 1) := by decide +kernel
theorem dX3_refuse_0 : decode cX3_refuse 0 = .ok (.aload_n 0, 1) := by decide +kernel
theorem dX3_refuse_1 : decode cX3_refuse 1 = .ok (.getfield 24, 3) := by decide +kernel
theorem dX3_refuse_4 : decode cX3_refuse 4 = .ok (.iconst (-1), 1) := by decide +kernel
theorem dX3_refuse_5 : decode cX3_refuse 5 = .ok (.if_icmp .ne 11, 3) := by decide +kernel
theorem dX3_refuse_8 : decode cX3_refuse 8 = .ok (.aload_n 0, 1) := by decide +kernel
theorem dX3_refuse_9 : decode cX3_refuse 9 = .ok (.aload_n 0, 1) := by decide +kernel
theorem dX3_refuse_10 : decode cX3_refuse 10 = .ok (.getfield 21, 3) := by decide +kernel
theorem dX3_refuse_13 : decode cX3_refuse 13 = .ok (.putfield 24, 3) := by decide +kernel
theorem dX3_refuse_16 : decode cX3_refuse 16 = .ok (.aload_n 0, 1) := by decide +kernel
theorem dX3_refuse_17 : decode cX3_refuse 17 = .ok (.iconst (-1), 1) := by decide +kernel
theorem dX3_refuse_18 : decode cX3_refuse 18 = .ok (.putfield 18, 3) := by decide +kernel
theorem dX3_refuse_21 : decode cX3_refuse 21 = .ok (.return_, 1) := by decide +kernel
set_option maxRecDepth 100000 in
theorem ggX3_take_X3_advance : GoodIn wsX3_take wsX3_advance := goodIn_r _ [6, 7, 8, 9, 10, 11, 1, 12, 13, 5, 14, 15, 16, 17, 18, 19, 20, 21, 22, 23, 24, 25, 26, 27, 28, 29, 30, 31, 32, 33, 34, 35, 36, 37, 38, 39, 40, 41, 42, 43, 44, 45, 46, 47, 48, 49, 50, 51, 52, 53, 54, 55, 56, 57, 58, 59, 60, 61, 62, 63, 64, 65, 66, 67, 68, 69, 70, 71, 72, 73, 74, 75, 76, 77, 78, 79, 80, 81, 86, 87, 88, 89, 90, 91, 92, 93, 94, 95] rfl (by decide +kernel)
set_option maxRecDepth 100000 in
theorem gX3_take_X3_advance : GoodIn wsX3_take (wsV RX3 50 RX3 yX3_advance wsX3_advance) := goodIn_app (goodIn_of _ (by decide +kernel)) ggX3_take_X3_advance
set_option maxRecDepth 100000 in
theorem ggX3_take_X3_refuse : GoodIn wsX3_take wsX3_refuse := goodIn_r _ [85, 7, 11, 1, 86, 87, 88, 89, 90, 91, 92, 93, 94, 95] rfl (by decide +kernel)
set_option maxRecDepth 100000 in
theorem gX3_take_X3_refuse : GoodIn wsX3_take (wsV RX3 76 RX3 yX3_refuse wsX3_refuse) := goodIn_app (goodIn_of _ (by decide +kernel)) ggX3_take_X3_refuse
theorem dX3_take_0 : decode cX3_take 0 = .ok (.aload_n 0, 1) := by decide +kernel
theorem dX3_take_1 : decode cX3_take 1 = .ok (.getfield 18, 3) := by decide +kernel
theorem dX3_take_4 : decode cX3_take 4 = .ok (.iload_n 1, 1) := by decide +kernel
theorem dX3_take_5 : decode cX3_take 5 = .ok (.if_icmp .ne 10, 3) := by decide +kernel
theorem dX3_take_8 : decode cX3_take 8 = .ok (.aload_n 0, 1) := by decide +kernel
theorem dX3_take_9 : decode cX3_take 9 = .ok (.invokevirtual 50, 3) := by decide +kernel
theorem dX3_take_12 : decode cX3_take 12 = .ok (.goto 7, 3) := by decide +kernel
theorem dX3_take_15 : decode cX3_take 15 = .ok (.aload_n 0, 1) := by decide +kernel
theorem dX3_take_16 : decode cX3_take 16 = .ok (.invokevirtual 76, 3) := by decide +kernel
theorem dX3_take_19 : decode cX3_take 19 = .ok (.return_, 1) := by decide +kernel
theorem dX3_emit_0 : decode cX3_emit 0 = .ok (.aload_n 0, 1) := by decide +kernel
theorem dX3_emit_1 : decode cX3_emit 1 = .ok (.getfield 34, 3) := by decide +kernel
theorem dX3_emit_4 : decode cX3_emit 4 = .ok (.sipush 160, 3) := by decide +kernel
theorem dX3_emit_7 : decode cX3_emit 7 = .ok (.if_icmp .ge 23, 3) := by decide +kernel
theorem dX3_emit_10 : decode cX3_emit 10 = .ok (.aload_n 0, 1) := by decide +kernel
theorem dX3_emit_11 : decode cX3_emit 11 = .ok (.getfield 30, 3) := by decide +kernel
theorem dX3_emit_14 : decode cX3_emit 14 = .ok (.aload_n 0, 1) := by decide +kernel
theorem dX3_emit_15 : decode cX3_emit 15 = .ok (.getfield 34, 3) := by decide +kernel
theorem dX3_emit_18 : decode cX3_emit 18 = .ok (.iload_n 1, 1) := by decide +kernel
theorem dX3_emit_19 : decode cX3_emit 19 = .ok (.iastore, 1) := by decide +kernel
theorem dX3_emit_20 : decode cX3_emit 20 = .ok (.aload_n 0, 1) := by decide +kernel
theorem dX3_emit_21 : decode cX3_emit 21 = .ok (.dup, 1) := by decide +kernel
theorem dX3_emit_22 : decode cX3_emit 22 = .ok (.getfield 34, 3) := by decide +kernel
theorem dX3_emit_25 : decode cX3_emit 25 = .ok (.iconst 1, 1) := by decide +kernel
theorem dX3_emit_26 : decode cX3_emit 26 = .ok (.iadd, 1) := by decide +kernel
theorem dX3_emit_27 : decode cX3_emit 27 = .ok (.putfield 34, 3) := by decide +kernel
theorem dX3_emit_30 : decode cX3_emit 30 = .ok (.return_, 1) := by decide +kernel
set_option maxRecDepth 100000 in
theorem ggX3_opens_X3_refuse : GoodIn wsX3_opens wsX3_refuse := goodIn_r _ [6, 7, 8, 9, 87, 88, 89, 90, 91, 92, 93, 94, 95, 96] rfl (by decide +kernel)
set_option maxRecDepth 100000 in
theorem gX3_opens_X3_refuse : GoodIn wsX3_opens (wsV RX3 76 RX3 yX3_refuse wsX3_refuse) := goodIn_app (goodIn_of _ (by decide +kernel)) ggX3_opens_X3_refuse
set_option maxRecDepth 100000 in
theorem ggX3_opens_X3_advance : GoodIn wsX3_opens wsX3_advance := goodIn_r _ [13, 7, 14, 15, 16, 8, 9, 17, 18, 5, 19, 20, 21, 22, 23, 24, 25, 26, 27, 28, 29, 30, 31, 32, 33, 34, 35, 36, 37, 38, 39, 40, 41, 42, 43, 44, 45, 46, 47, 48, 49, 50, 51, 52, 53, 54, 55, 56, 57, 58, 59, 60, 61, 62, 63, 64, 65, 66, 67, 68, 69, 70, 71, 72, 73, 74, 75, 76, 77, 78, 79, 80, 81, 82, 83, 84, 85, 86, 87, 88, 89, 90, 91, 92, 93, 94, 95, 96] rfl (by decide +kernel)
set_option maxRecDepth 100000 in
theorem gX3_opens_X3_advance : GoodIn wsX3_opens (wsV RX3 50 RX3 yX3_advance wsX3_advance) := goodIn_app (goodIn_of _ (by decide +kernel)) ggX3_opens_X3_advance
theorem dX3_opens_0 : decode cX3_opens 0 = .ok (.aload_n 0, 1) := by decide +kernel
theorem dX3_opens_1 : decode cX3_opens 1 = .ok (.getfield 27, 3) := by decide +kernel
theorem dX3_opens_4 : decode cX3_opens 4 = .ok (.iconst 5, 1) := by decide +kernel
theorem dX3_opens_5 : decode cX3_opens 5 = .ok (.if_icmp .lt 9, 3) := by decide +kernel
theorem dX3_opens_8 : decode cX3_opens 8 = .ok (.aload_n 0, 1) := by decide +kernel
theorem dX3_opens_9 : decode cX3_opens 9 = .ok (.invokevirtual 76, 3) := by decide +kernel
theorem dX3_opens_12 : decode cX3_opens 12 = .ok (.iconst 0, 1) := by decide +kernel
theorem dX3_opens_13 : decode cX3_opens 13 = .ok (.ireturn, 1) := by decide +kernel
theorem dX3_opens_14 : decode cX3_opens 14 = .ok (.aload_n 0, 1) := by decide +kernel
theorem dX3_opens_15 : decode cX3_opens 15 = .ok (.dup, 1) := by decide +kernel
theorem dX3_opens_16 : decode cX3_opens 16 = .ok (.getfield 27, 3) := by decide +kernel
theorem dX3_opens_19 : decode cX3_opens 19 = .ok (.iconst 1, 1) := by decide +kernel
theorem dX3_opens_20 : decode cX3_opens 20 = .ok (.iadd, 1) := by decide +kernel
theorem dX3_opens_21 : decode cX3_opens 21 = .ok (.putfield 27, 3) := by decide +kernel
theorem dX3_opens_24 : decode cX3_opens 24 = .ok (.aload_n 0, 1) := by decide +kernel
theorem dX3_opens_25 : decode cX3_opens 25 = .ok (.invokevirtual 50, 3) := by decide +kernel
theorem dX3_opens_28 : decode cX3_opens 28 = .ok (.iconst 1, 1) := by decide +kernel
theorem dX3_opens_29 : decode cX3_opens 29 = .ok (.ireturn, 1) := by decide +kernel
set_option maxRecDepth 100000 in
theorem ggX3_readOr_X3_readAnd : GoodIn wsX3_readOr wsX3_readAnd := goodIn_r _ [91, 1, 92, 93, 94, 5, 6, 7, 8, 9, 10, 11, 12, 13, 14, 15, 16, 17, 18, 19, 20, 21, 22, 23, 24, 25, 26, 27, 28, 29, 30, 31, 32, 33, 34, 35, 36, 37, 38, 39, 40, 41, 42, 43, 44, 45, 46, 47, 48, 49, 50, 51, 52, 53, 54, 55, 56, 57, 58, 59, 60, 61, 62, 63, 64, 65, 66, 67, 68, 69, 70, 71, 72, 73, 74, 75, 76, 77, 78, 79, 80, 81, 82, 83, 84, 85, 86, 87, 88, 89, 90, 95, 96, 97, 98, 99, 100, 101, 102, 103, 104, 105, 106, 107, 108, 109, 110, 111, 112, 113, 114, 115, 116, 117, 118, 0, 2, 3, 4, 119, 120, 121, 122, 123, 124, 125, 126, 127, 128, 129, 130, 131, 132, 133] rfl (by decide +kernel)
set_option maxRecDepth 100000 in
theorem gX3_readOr_X3_readAnd : GoodIn wsX3_readOr (wsV RX3 79 RX3 yX3_readAnd wsX3_readAnd) := goodIn_app (goodIn_of _ (by decide +kernel)) ggX3_readOr_X3_readAnd
set_option maxRecDepth 100000 in
theorem ggX3_readOr_X3_advance : GoodIn wsX3_readOr wsX3_advance := goodIn_r _ [9, 10, 11, 12, 13, 14, 1, 15, 16, 5, 17, 18, 19, 20, 21, 22, 23, 24, 25, 26, 27, 28, 29, 30, 31, 32, 33, 34, 35, 36, 37, 38, 39, 40, 41, 42, 43, 44, 45, 46, 47, 48, 49, 50, 51, 52, 53, 54, 55, 56, 57, 58, 59, 60, 61, 62, 63, 64, 65, 66, 67, 68, 69, 70, 71, 72, 73, 74, 75, 76, 77, 78, 79, 80, 81, 82, 83, 84, 124, 125, 126, 127, 128, 129, 130, 131, 132, 133] rfl (by decide +kernel)
set_option maxRecDepth 100000 in
theorem gX3_readOr_X3_advance : GoodIn wsX3_readOr (wsV RX3 50 RX3 yX3_advance wsX3_advance) := goodIn_app (goodIn_of _ (by decide +kernel)) ggX3_readOr_X3_advance
set_option maxRecDepth 100000 in
theorem ggX3_readOr_X3_emit : GoodIn wsX3_readOr wsX3_emit := goodIn_r _ [88, 89, 90, 124, 125, 126, 127, 128, 129, 130, 131, 132, 133] rfl (by decide +kernel)
set_option maxRecDepth 100000 in
theorem gX3_readOr_X3_emit : GoodIn wsX3_readOr (wsV RX3 82 RX3 yX3_emit wsX3_emit) := goodIn_app (goodIn_of _ (by decide +kernel)) ggX3_readOr_X3_emit
theorem dX3_readOr_0 : decode cX3_readOr 0 = .ok (.aload_n 0, 1) := by decide +kernel
theorem dX3_readOr_1 : decode cX3_readOr 1 = .ok (.invokevirtual 79, 3) := by decide +kernel
theorem dX3_readOr_4 : decode cX3_readOr 4 = .ok (.iconst 0, 1) := by decide +kernel
theorem dX3_readOr_5 : decode cX3_readOr 5 = .ok (.istore_n 1, 1) := by decide +kernel
theorem dX3_readOr_6 : decode cX3_readOr 6 = .ok (.iload_n 1, 1) := by decide +kernel
theorem dX3_readOr_7 : decode cX3_readOr 7 = .ok (.sipush 160, 3) := by decide +kernel
theorem dX3_readOr_10 : decode cX3_readOr 10 = .ok (.if_icmp .ge 34, 3) := by decide +kernel
theorem dX3_readOr_13 : decode cX3_readOr 13 = .ok (.aload_n 0, 1) := by decide +kernel
theorem dX3_readOr_14 : decode cX3_readOr 14 = .ok (.getfield 18, 3) := by decide +kernel
theorem dX3_readOr_17 : decode cX3_readOr 17 = .ok (.sipush 259, 3) := by decide +kernel
theorem dX3_readOr_20 : decode cX3_readOr 20 = .ok (.if_icmp .ne 24, 3) := by decide +kernel
theorem dX3_readOr_23 : decode cX3_readOr 23 = .ok (.aload_n 0, 1) := by decide +kernel
theorem dX3_readOr_24 : decode cX3_readOr 24 = .ok (.invokevirtual 50, 3) := by decide +kernel
theorem dX3_readOr_27 : decode cX3_readOr 27 = .ok (.aload_n 0, 1) := by decide +kernel
theorem dX3_readOr_28 : decode cX3_readOr 28 = .ok (.invokevirtual 79, 3) := by decide +kernel
theorem dX3_readOr_31 : decode cX3_readOr 31 = .ok (.aload_n 0, 1) := by decide +kernel
theorem dX3_readOr_32 : decode cX3_readOr 32 = .ok (.sipush 259, 3) := by decide +kernel
theorem dX3_readOr_35 : decode cX3_readOr 35 = .ok (.invokevirtual 82, 3) := by decide +kernel
theorem dX3_readOr_38 : decode cX3_readOr 38 = .ok (.iinc 1 1, 3) := by decide +kernel
theorem dX3_readOr_41 : decode cX3_readOr 41 = .ok (.goto (-35), 3) := by decide +kernel
theorem dX3_readOr_44 : decode cX3_readOr 44 = .ok (.return_, 1) := by decide +kernel
set_option maxRecDepth 100000 in
theorem ggX3_readAnd_X3_readNot : GoodIn wsX3_readAnd wsX3_readNot := goodIn_r _ [91, 1, 92, 93, 94, 95, 5, 96, 97, 98, 99, 100, 10, 14, 6, 7, 8, 9, 11, 12, 13, 15, 16, 17, 18, 19, 20, 21, 22, 23, 24, 25, 26, 27, 28, 29, 30, 31, 32, 33, 34, 35, 36, 37, 38, 39, 40, 41, 42, 43, 44, 45, 46, 47, 48, 49, 50, 51, 52, 53, 54, 55, 56, 57, 58, 59, 60, 61, 62, 63, 64, 65, 66, 67, 68, 69, 70, 71, 72, 73, 74, 75, 76, 77, 78, 79, 80, 81, 82, 83, 84, 2, 3, 4, 85, 86, 87, 88, 89, 90, 101, 102, 103, 0, 104, 105, 106, 107, 108, 109, 110, 111, 112, 113, 114, 115, 116, 117, 118, 119, 120, 121, 122, 123, 124, 125, 126, 127, 128, 129, 130, 131, 132, 133] rfl (by decide +kernel)
set_option maxRecDepth 100000 in
theorem gX3_readAnd_X3_readNot : GoodIn wsX3_readAnd (wsV RX3 85 RX3 yX3_readNot wsX3_readNot) := goodIn_app (goodIn_of _ (by decide +kernel)) ggX3_readAnd_X3_readNot
set_option maxRecDepth 100000 in
theorem ggX3_readAnd_X3_advance : GoodIn wsX3_readAnd wsX3_advance := goodIn_r _ [9, 10, 11, 12, 13, 14, 1, 15, 16, 5, 17, 18, 19, 20, 21, 22, 23, 24, 25, 26, 27, 28, 29, 30, 31, 32, 33, 34, 35, 36, 37, 38, 39, 40, 41, 42, 43, 44, 45, 46, 47, 48, 49, 50, 51, 52, 53, 54, 55, 56, 57, 58, 59, 60, 61, 62, 63, 64, 65, 66, 67, 68, 69, 70, 71, 72, 73, 74, 75, 76, 77, 78, 79, 80, 81, 82, 83, 84, 124, 125, 126, 127, 128, 129, 130, 131, 132, 133] rfl (by decide +kernel)
set_option maxRecDepth 100000 in
theorem gX3_readAnd_X3_advance : GoodIn wsX3_readAnd (wsV RX3 50 RX3 yX3_advance wsX3_advance) := goodIn_app (goodIn_of _ (by decide +kernel)) ggX3_readAnd_X3_advance
set_option maxRecDepth 100000 in
theorem ggX3_readAnd_X3_emit : GoodIn wsX3_readAnd wsX3_emit := goodIn_r _ [88, 89, 90, 124, 125, 126, 127, 128, 129, 130, 131, 132, 133] rfl (by decide +kernel)
set_option maxRecDepth 100000 in
theorem gX3_readAnd_X3_emit : GoodIn wsX3_readAnd (wsV RX3 82 RX3 yX3_emit wsX3_emit) := goodIn_app (goodIn_of _ (by decide +kernel)) ggX3_readAnd_X3_emit
theorem dX3_readAnd_0 : decode cX3_readAnd 0 = .ok (.aload_n 0, 1) := by decide +kernel
theorem dX3_readAnd_1 : decode cX3_readAnd 1 = .ok (.invokevirtual 85, 3) := by decide +kernel
theorem dX3_readAnd_4 : decode cX3_readAnd 4 = .ok (.iconst 0, 1) := by decide +kernel
theorem dX3_readAnd_5 : decode cX3_readAnd 5 = .ok (.istore_n 1, 1) := by decide +kernel
theorem dX3_readAnd_6 : decode cX3_readAnd 6 = .ok (.iload_n 1, 1) := by decide +kernel
theorem dX3_readAnd_7 : decode cX3_readAnd 7 = .ok (.sipush 160, 3) := by decide +kernel
theorem dX3_readAnd_10 : decode cX3_readAnd 10 = .ok (.if_icmp .ge 34, 3) := by decide +kernel
theorem dX3_readAnd_13 : decode cX3_readAnd 13 = .ok (.aload_n 0, 1) := by decide +kernel
theorem dX3_readAnd_14 : decode cX3_readAnd 14 = .ok (.getfield 18, 3) := by decide +kernel
theorem dX3_readAnd_17 : decode cX3_readAnd 17 = .ok (.sipush 260, 3) := by decide +kernel
theorem dX3_readAnd_20 : decode cX3_readAnd 20 = .ok (.if_icmp .ne 24, 3) := by decide +kernel
theorem dX3_readAnd_23 : decode cX3_readAnd 23 = .ok (.aload_n 0, 1) := by decide +kernel
theorem dX3_readAnd_24 : decode cX3_readAnd 24 = .ok (.invokevirtual 50, 3) := by decide +kernel
theorem dX3_readAnd_27 : decode cX3_readAnd 27 = .ok (.aload_n 0, 1) := by decide +kernel
theorem dX3_readAnd_28 : decode cX3_readAnd 28 = .ok (.invokevirtual 85, 3) := by decide +kernel
theorem dX3_readAnd_31 : decode cX3_readAnd 31 = .ok (.aload_n 0, 1) := by decide +kernel
theorem dX3_readAnd_32 : decode cX3_readAnd 32 = .ok (.sipush 260, 3) := by decide +kernel
theorem dX3_readAnd_35 : decode cX3_readAnd 35 = .ok (.invokevirtual 82, 3) := by decide +kernel
theorem dX3_readAnd_38 : decode cX3_readAnd 38 = .ok (.iinc 1 1, 3) := by decide +kernel
theorem dX3_readAnd_41 : decode cX3_readAnd 41 = .ok (.goto (-35), 3) := by decide +kernel
theorem dX3_readAnd_44 : decode cX3_readAnd 44 = .ok (.return_, 1) := by decide +kernel
set_option maxRecDepth 100000 in
theorem ggX3_readNot_X3_opens : GoodIn wsX3_readNot wsX3_opens := goodIn_r _ [7, 2, 8, 9, 10, 6, 11, 12, 13, 1, 14, 15, 16, 17, 18, 19, 20, 21, 22, 23, 24, 25, 26, 27, 28, 29, 30, 31, 32, 33, 34, 35, 36, 37, 38, 39, 40, 41, 42, 43, 44, 45, 46, 47, 48, 49, 50, 51, 52, 53, 54, 55, 56, 57, 58, 59, 60, 61, 62, 63, 64, 65, 66, 67, 68, 69, 70, 71, 72, 73, 74, 75, 76, 77, 78, 79, 80, 81, 82, 83, 84, 85, 86, 87, 88, 89, 90, 124, 125, 126, 127, 128, 129, 130, 131, 132, 133] rfl (by decide +kernel)
set_option maxRecDepth 100000 in
theorem gX3_readNot_X3_opens : GoodIn wsX3_readNot (wsV RX3 88 RX3 yX3_opens wsX3_opens) := goodIn_app (goodIn_of _ (by decide +kernel)) ggX3_readNot_X3_opens
set_option maxRecDepth 100000 in
theorem ggX3_readNot_X3_readNot : GoodIn wsX3_readNot wsX3_readNot := goodIn_r _ [0, 1, 2, 3, 4, 5, 6, 7, 8, 9, 10, 11, 12, 13, 14, 15, 16, 17, 18, 19, 20, 21, 22, 23, 24, 25, 26, 27, 28, 29, 30, 31, 32, 33, 34, 35, 36, 37, 38, 39, 40, 41, 42, 43, 44, 45, 46, 47, 48, 49, 50, 51, 52, 53, 54, 55, 56, 57, 58, 59, 60, 61, 62, 63, 64, 65, 66, 67, 68, 69, 70, 71, 72, 73, 74, 75, 76, 77, 78, 79, 80, 81, 82, 83, 84, 85, 86, 87, 88, 89, 90, 91, 92, 93, 94, 95, 96, 97, 98, 99, 100, 101, 102, 103, 104, 105, 106, 107, 108, 109, 110, 111, 112, 113, 114, 115, 116, 117, 118, 119, 120, 121, 122, 123, 124, 125, 126, 127, 128, 129, 130, 131, 132, 133] rfl (by decide +kernel)
set_option maxRecDepth 100000 in
theorem gX3_readNot_X3_readNot : GoodIn wsX3_readNot (wsV RX3 85 RX3 yX3_readNot wsX3_readNot) := goodIn_app (goodIn_of _ (by decide +kernel)) ggX3_readNot_X3_readNot
set_option maxRecDepth 100000 in
theorem ggX3_readNot_X3_emit : GoodIn wsX3_readNot wsX3_emit := goodIn_r _ [97, 98, 99, 124, 125, 126, 127, 128, 129, 130, 131, 132, 133] rfl (by decide +kernel)
set_option maxRecDepth 100000 in
theorem gX3_readNot_X3_emit : GoodIn wsX3_readNot (wsV RX3 82 RX3 yX3_emit wsX3_emit) := goodIn_app (goodIn_of _ (by decide +kernel)) ggX3_readNot_X3_emit
set_option maxRecDepth 100000 in
theorem ggX3_readNot_X3_readSum : GoodIn wsX3_readNot wsX3_readSum := goodIn_r _ [119, 1, 120, 121, 122, 6, 14, 15, 16, 17, 12, 18, 19, 20, 13, 21, 22, 23, 24, 25, 26, 27, 28, 29, 30, 31, 32, 33, 34, 35, 36, 37, 38, 39, 40, 41, 42, 43, 44, 45, 46, 47, 48, 49, 50, 51, 52, 53, 54, 55, 56, 57, 58, 59, 60, 61, 62, 63, 64, 65, 66, 67, 68, 69, 70, 71, 72, 73, 74, 75, 76, 77, 78, 79, 80, 81, 82, 83, 84, 85, 86, 87, 88, 89, 90, 94, 95, 96, 97, 98, 99, 103, 91, 92, 93, 0, 2, 3, 4, 5, 7, 8, 9, 10, 11, 100, 101, 102, 104, 105, 106, 107, 108, 109, 110, 111, 112, 113, 114, 115, 116, 117, 118, 123, 124, 125, 126, 127, 128, 129, 130, 131, 132, 133] rfl (by decide +kernel)
set_option maxRecDepth 100000 in
theorem gX3_readNot_X3_readSum : GoodIn wsX3_readNot (wsV RX3 92 RX3 yX3_readSum wsX3_readSum) := goodIn_app (goodIn_of _ (by decide +kernel)) ggX3_readNot_X3_readSum
set_option maxRecDepth 100000 in
theorem ggX3_readNot_X3_advance : GoodIn wsX3_readNot wsX3_advance := goodIn_r _ [17, 12, 18, 19, 20, 13, 1, 21, 22, 6, 23, 24, 25, 26, 27, 28, 29, 30, 31, 32, 33, 34, 35, 36, 37, 38, 39, 40, 41, 42, 43, 44, 45, 46, 47, 48, 49, 50, 51, 52, 53, 54, 55, 56, 57, 58, 59, 60, 61, 62, 63, 64, 65, 66, 67, 68, 69, 70, 71, 72, 73, 74, 75, 76, 77, 78, 79, 80, 81, 82, 83, 84, 85, 86, 87, 88, 89, 90, 124, 125, 126, 127, 128, 129, 130, 131, 132, 133] rfl (by decide +kernel)
set_option maxRecDepth 100000 in
theorem gX3_readNot_X3_advance : GoodIn wsX3_readNot (wsV RX3 50 RX3 yX3_advance wsX3_advance) := goodIn_app (goodIn_of _ (by decide +kernel)) ggX3_readNot_X3_advance
theorem dX3_readNot_0 : decode cX3_readNot 0 = .ok (.aload_n 0, 1) := by decide +kernel
theorem dX3_readNot_1 : decode cX3_readNot 1 = .ok (.getfield 18, 3) := by decide +kernel
theorem dX3_readNot_4 : decode cX3_readNot 4 = .ok (.sipush 261, 3) := by decide +kernel
theorem dX3_readNot_7 : decode cX3_readNot 7 = .ok (.if_icmp .ne 32, 3) := by decide +kernel
theorem dX3_readNot_10 : decode cX3_readNot 10 = .ok (.aload_n 0, 1) := by decide +kernel
theorem dX3_readNot_11 : decode cX3_readNot 11 = .ok (.invokevirtual 88, 3) := by decide +kernel
theorem dX3_readNot_14 : decode cX3_readNot 14 = .ok (.ifCond .eq 24, 3) := by decide +kernel
theorem dX3_readNot_17 : decode cX3_readNot 17 = .ok (.aload_n 0, 1) := by decide +kernel
theorem dX3_readNot_18 : decode cX3_readNot 18 = .ok (.invokevirtual 85, 3) := by decide +kernel
theorem dX3_readNot_21 : decode cX3_readNot 21 = .ok (.aload_n 0, 1) := by decide +kernel
theorem dX3_readNot_22 : decode cX3_readNot 22 = .ok (.dup, 1) := by decide +kernel
theorem dX3_readNot_23 : decode cX3_readNot 23 = .ok (.getfield 27, 3) := by decide +kernel
theorem dX3_readNot_26 : decode cX3_readNot 26 = .ok (.iconst 1, 1) := by decide +kernel
theorem dX3_readNot_27 : decode cX3_readNot 27 = .ok (.isub, 1) := by decide +kernel
theorem dX3_readNot_28 : decode cX3_readNot 28 = .ok (.putfield 27, 3) := by decide +kernel
theorem dX3_readNot_31 : decode cX3_readNot 31 = .ok (.aload_n 0, 1) := by decide +kernel
theorem dX3_readNot_32 : decode cX3_readNot 32 = .ok (.sipush 261, 3) := by decide +kernel
theorem dX3_readNot_35 : decode cX3_readNot 35 = .ok (.invokevirtual 82, 3) := by decide +kernel
theorem dX3_readNot_38 : decode cX3_readNot 38 = .ok (.return_, 1) := by decide +kernel
theorem dX3_readNot_39 : decode cX3_readNot 39 = .ok (.aload_n 0, 1) := by decide +kernel
theorem dX3_readNot_40 : decode cX3_readNot 40 = .ok (.invokevirtual 92, 3) := by decide +kernel
theorem dX3_readNot_43 : decode cX3_readNot 43 = .ok (.aload_n 0, 1) := by decide +kernel
theorem dX3_readNot_44 : decode cX3_readNot 44 = .ok (.getfield 18, 3) := by decide +kernel
theorem dX3_readNot_47 : decode cX3_readNot 47 = .ok (.bipush 60, 2) := by decide +kernel
theorem dX3_readNot_49 : decode cX3_readNot 49 = .ok (.if_icmp .eq 12, 3) := by decide +kernel
theorem dX3_readNot_52 : decode cX3_readNot 52 = .ok (.aload_n 0, 1) := by decide +kernel
theorem dX3_readNot_53 : decode cX3_readNot 53 = .ok (.getfield 18, 3) := by decide +kernel
theorem dX3_readNot_56 : decode cX3_readNot 56 = .ok (.bipush 61, 2) := by decide +kernel
theorem dX3_readNot_58 : decode cX3_readNot 58 = .ok (.if_icmp .ne 21, 3) := by decide +kernel
theorem dX3_readNot_61 : decode cX3_readNot 61 = .ok (.aload_n 0, 1) := by decide +kernel
theorem dX3_readNot_62 : decode cX3_readNot 62 = .ok (.getfield 18, 3) := by decide +kernel
theorem dX3_readNot_65 : decode cX3_readNot 65 = .ok (.istore_n 1, 1) := by decide +kernel
theorem dX3_readNot_66 : decode cX3_readNot 66 = .ok (.aload_n 0, 1) := by decide +kernel
theorem dX3_readNot_67 : decode cX3_readNot 67 = .ok (.invokevirtual 50, 3) := by decide +kernel
theorem dX3_readNot_70 : decode cX3_readNot 70 = .ok (.aload_n 0, 1) := by decide +kernel
theorem dX3_readNot_71 : decode cX3_readNot 71 = .ok (.invokevirtual 92, 3) := by decide +kernel
theorem dX3_readNot_74 : decode cX3_readNot 74 = .ok (.aload_n 0, 1) := by decide +kernel
theorem dX3_readNot_75 : decode cX3_readNot 75 = .ok (.iload_n 1, 1) := by decide +kernel
theorem dX3_readNot_76 : decode cX3_readNot 76 = .ok (.invokevirtual 82, 3) := by decide +kernel
theorem dX3_readNot_79 : decode cX3_readNot 79 = .ok (.return_, 1) := by decide +kernel
set_option maxRecDepth 100000 in
theorem ggX3_readSum_X3_readTerm : GoodIn wsX3_readSum wsX3_readTerm := goodIn_r _ [123, 1, 109, 110, 111, 5, 6, 7, 8, 9, 10, 11, 12, 13, 14, 15, 16, 17, 18, 19, 20, 21, 22, 23, 24, 25, 26, 27, 28, 29, 30, 31, 32, 33, 34, 35, 36, 37, 38, 39, 40, 41, 42, 43, 44, 45, 46, 47, 48, 49, 50, 51, 52, 53, 54, 55, 56, 57, 58, 59, 60, 61, 62, 63, 64, 65, 66, 67, 68, 69, 70, 71, 72, 73, 74, 75, 76, 77, 78, 79, 80, 81, 82, 83, 84, 85, 86, 87, 88, 89, 90, 91, 92, 93, 94, 95, 96, 97, 98, 99, 100, 101, 102, 103, 104, 105, 106, 107, 108, 112, 113, 114, 115, 116, 117, 118, 119, 120, 121, 122, 0, 2, 3, 4, 124, 125, 126, 127, 128, 129, 130, 131, 132, 133] rfl (by decide +kernel)
set_option maxRecDepth 100000 in
theorem gX3_readSum_X3_readTerm : GoodIn wsX3_readSum (wsV RX3 95 RX3 yX3_readTerm wsX3_readTerm) := goodIn_app (goodIn_of _ (by decide +kernel)) ggX3_readSum_X3_readTerm
set_option maxRecDepth 100000 in
theorem ggX3_readSum_X3_advance : GoodIn wsX3_readSum wsX3_advance := goodIn_r _ [9, 10, 11, 12, 13, 14, 1, 15, 16, 5, 17, 18, 19, 20, 21, 22, 23, 24, 25, 26, 27, 28, 29, 30, 31, 32, 33, 34, 35, 36, 37, 38, 39, 40, 41, 42, 43, 44, 45, 46, 47, 48, 49, 50, 51, 52, 53, 54, 55, 56, 57, 58, 59, 60, 61, 62, 63, 64, 65, 66, 67, 68, 69, 70, 71, 72, 73, 74, 75, 76, 77, 78, 79, 80, 81, 82, 83, 84, 124, 125, 126, 127, 128, 129, 130, 131, 132, 133] rfl (by decide +kernel)
set_option maxRecDepth 100000 in
theorem gX3_readSum_X3_advance : GoodIn wsX3_readSum (wsV RX3 50 RX3 yX3_advance wsX3_advance) := goodIn_app (goodIn_of _ (by decide +kernel)) ggX3_readSum_X3_advance
set_option maxRecDepth 100000 in
theorem ggX3_readSum_X3_emit : GoodIn wsX3_readSum wsX3_emit := goodIn_r _ [88, 89, 90, 124, 125, 126, 127, 128, 129, 130, 131, 132, 133] rfl (by decide +kernel)
set_option maxRecDepth 100000 in
theorem gX3_readSum_X3_emit : GoodIn wsX3_readSum (wsV RX3 82 RX3 yX3_emit wsX3_emit) := goodIn_app (goodIn_of _ (by decide +kernel)) ggX3_readSum_X3_emit
theorem dX3_readSum_0 : decode cX3_readSum 0 = .ok (.aload_n 0, 1) := by decide +kernel
theorem dX3_readSum_1 : decode cX3_readSum 1 = .ok (.invokevirtual 95, 3) := by decide +kernel
theorem dX3_readSum_4 : decode cX3_readSum 4 = .ok (.iconst 0, 1) := by decide +kernel
theorem dX3_readSum_5 : decode cX3_readSum 5 = .ok (.istore_n 1, 1) := by decide +kernel
theorem dX3_readSum_6 : decode cX3_readSum 6 = .ok (.iload_n 1, 1) := by decide +kernel
theorem dX3_readSum_7 : decode cX3_readSum 7 = .ok (.sipush 160, 3) := by decide +kernel
theorem dX3_readSum_10 : decode cX3_readSum 10 = .ok (.if_icmp .ge 45, 3) := by decide +kernel
theorem dX3_readSum_13 : decode cX3_readSum 13 = .ok (.aload_n 0, 1) := by decide +kernel
theorem dX3_readSum_14 : decode cX3_readSum 14 = .ok (.getfield 18, 3) := by decide +kernel
theorem dX3_readSum_17 : decode cX3_readSum 17 = .ok (.bipush 43, 2) := by decide +kernel
theorem dX3_readSum_19 : decode cX3_readSum 19 = .ok (.if_icmp .eq 12, 3) := by decide +kernel
theorem dX3_readSum_22 : decode cX3_readSum 22 = .ok (.aload_n 0, 1) := by decide +kernel
theorem dX3_readSum_23 : decode cX3_readSum 23 = .ok (.getfield 18, 3) := by decide +kernel
theorem dX3_readSum_26 : decode cX3_readSum 26 = .ok (.bipush 45, 2) := by decide +kernel
theorem dX3_readSum_28 : decode cX3_readSum 28 = .ok (.if_icmp .ne 27, 3) := by decide +kernel
theorem dX3_readSum_31 : decode cX3_readSum 31 = .ok (.aload_n 0, 1) := by decide +kernel
theorem dX3_readSum_32 : decode cX3_readSum 32 = .ok (.getfield 18, 3) := by decide +kernel
theorem dX3_readSum_35 : decode cX3_readSum 35 = .ok (.istore_n 2, 1) := by decide +kernel
theorem dX3_readSum_36 : decode cX3_readSum 36 = .ok (.aload_n 0, 1) := by decide +kernel
theorem dX3_readSum_37 : decode cX3_readSum 37 = .ok (.invokevirtual 50, 3) := by decide +kernel
theorem dX3_readSum_40 : decode cX3_readSum 40 = .ok (.aload_n 0, 1) := by decide +kernel
theorem dX3_readSum_41 : decode cX3_readSum 41 = .ok (.invokevirtual 95, 3) := by decide +kernel
theorem dX3_readSum_44 : decode cX3_readSum 44 = .ok (.aload_n 0, 1) := by decide +kernel
theorem dX3_readSum_45 : decode cX3_readSum 45 = .ok (.iload_n 2, 1) := by decide +kernel
theorem dX3_readSum_46 : decode cX3_readSum 46 = .ok (.invokevirtual 82, 3) := by decide +kernel
theorem dX3_readSum_49 : decode cX3_readSum 49 = .ok (.iinc 1 1, 3) := by decide +kernel
theorem dX3_readSum_52 : decode cX3_readSum 52 = .ok (.goto (-46), 3) := by decide +kernel
theorem dX3_readSum_55 : decode cX3_readSum 55 = .ok (.return_, 1) := by decide +kernel
set_option maxRecDepth 100000 in
theorem ggX3_readTerm_X3_readOne : GoodIn wsX3_readTerm wsX3_readOne := goodIn_r _ [108, 1, 96, 85, 86, 87, 5, 88, 89, 90, 6, 7, 8, 9, 10, 11, 12, 13, 14, 15, 16, 17, 18, 19, 20, 21, 22, 23, 24, 25, 26, 27, 28, 29, 30, 31, 32, 33, 34, 35, 36, 37, 38, 39, 40, 41, 42, 43, 44, 45, 46, 47, 48, 49, 50, 51, 52, 53, 54, 55, 56, 57, 58, 59, 60, 61, 62, 63, 64, 65, 66, 67, 68, 69, 70, 71, 72, 73, 74, 75, 76, 77, 78, 79, 80, 81, 82, 83, 84, 97, 98, 99, 100, 101, 102, 103, 104, 2, 3, 4, 109, 110, 111, 112, 113, 114, 115, 91, 92, 93, 94, 95, 105, 106, 107, 116, 117, 118, 119, 120, 121, 122, 123, 0, 124, 125, 126, 127, 128, 129, 130, 131, 132, 133] rfl (by decide +kernel)
set_option maxRecDepth 100000 in
theorem gX3_readTerm_X3_readOne : GoodIn wsX3_readTerm (wsV RX3 98 RX3 yX3_readOne wsX3_readOne) := goodIn_app (goodIn_of _ (by decide +kernel)) ggX3_readTerm_X3_readOne
set_option maxRecDepth 100000 in
theorem ggX3_readTerm_X3_advance : GoodIn wsX3_readTerm wsX3_advance := goodIn_r _ [9, 10, 11, 12, 13, 14, 1, 15, 16, 5, 17, 18, 19, 20, 21, 22, 23, 24, 25, 26, 27, 28, 29, 30, 31, 32, 33, 34, 35, 36, 37, 38, 39, 40, 41, 42, 43, 44, 45, 46, 47, 48, 49, 50, 51, 52, 53, 54, 55, 56, 57, 58, 59, 60, 61, 62, 63, 64, 65, 66, 67, 68, 69, 70, 71, 72, 73, 74, 75, 76, 77, 78, 79, 80, 81, 82, 83, 84, 124, 125, 126, 127, 128, 129, 130, 131, 132, 133] rfl (by decide +kernel)
set_option maxRecDepth 100000 in
theorem gX3_readTerm_X3_advance : GoodIn wsX3_readTerm (wsV RX3 50 RX3 yX3_advance wsX3_advance) := goodIn_app (goodIn_of _ (by decide +kernel)) ggX3_readTerm_X3_advance
set_option maxRecDepth 100000 in
theorem ggX3_readTerm_X3_emit : GoodIn wsX3_readTerm wsX3_emit := goodIn_r _ [88, 89, 90, 124, 125, 126, 127, 128, 129, 130, 131, 132, 133] rfl (by decide +kernel)
set_option maxRecDepth 100000 in
theorem gX3_readTerm_X3_emit : GoodIn wsX3_readTerm (wsV RX3 82 RX3 yX3_emit wsX3_emit) := goodIn_app (goodIn_of _ (by decide +kernel)) ggX3_readTerm_X3_emit
theorem dX3_readTerm_0 : decode cX3_readTerm 0 = .ok (.aload_n 0, 1) := by decide +kernel
theorem dX3_readTerm_1 : decode cX3_readTerm 1 = .ok (.invokevirtual 98, 3) := by decide +kernel
theorem dX3_readTerm_4 : decode cX3_readTerm 4 = .ok (.iconst 0, 1) := by decide +kernel
theorem dX3_readTerm_5 : decode cX3_readTerm 5 = .ok (.istore_n 1, 1) := by decide +kernel
theorem dX3_readTerm_6 : decode cX3_readTerm 6 = .ok (.iload_n 1, 1) := by decide +kernel
theorem dX3_readTerm_7 : decode cX3_readTerm 7 = .ok (.sipush 160, 3) := by decide +kernel
theorem dX3_readTerm_10 : decode cX3_readTerm 10 = .ok (.if_icmp .ge 32, 3) := by decide +kernel
theorem dX3_readTerm_13 : decode cX3_readTerm 13 = .ok (.aload_n 0, 1) := by decide +kernel
theorem dX3_readTerm_14 : decode cX3_readTerm 14 = .ok (.getfield 18, 3) := by decide +kernel
theorem dX3_readTerm_17 : decode cX3_readTerm 17 = .ok (.bipush 42, 2) := by decide +kernel
theorem dX3_readTerm_19 : decode cX3_readTerm 19 = .ok (.if_icmp .ne 23, 3) := by decide +kernel
theorem dX3_readTerm_22 : decode cX3_readTerm 22 = .ok (.aload_n 0, 1) := by decide +kernel
theorem dX3_readTerm_23 : decode cX3_readTerm 23 = .ok (.invokevirtual 50, 3) := by decide +kernel
theorem dX3_readTerm_26 : decode cX3_readTerm 26 = .ok (.aload_n 0, 1) := by decide +kernel
theorem dX3_readTerm_27 : decode cX3_readTerm 27 = .ok (.invokevirtual 98, 3) := by decide +kernel
theorem dX3_readTerm_30 : decode cX3_readTerm 30 = .ok (.aload_n 0, 1) := by decide +kernel
theorem dX3_readTerm_31 : decode cX3_readTerm 31 = .ok (.bipush 42, 2) := by decide +kernel
theorem dX3_readTerm_33 : decode cX3_readTerm 33 = .ok (.invokevirtual 82, 3) := by decide +kernel
theorem dX3_readTerm_36 : decode cX3_readTerm 36 = .ok (.iinc 1 1, 3) := by decide +kernel
theorem dX3_readTerm_39 : decode cX3_readTerm 39 = .ok (.goto (-33), 3) := by decide +kernel
theorem dX3_readTerm_42 : decode cX3_readTerm 42 = .ok (.return_, 1) := by decide +kernel
set_option maxRecDepth 100000 in
theorem ggX3_readOne_X3_emit : GoodIn wsX3_readOne wsX3_emit := goodIn_r _ [7, 8, 9, 124, 125, 126, 127, 128, 129, 130, 131, 132, 133] rfl (by decide +kernel)
set_option maxRecDepth 100000 in
theorem gX3_readOne_X3_emit : GoodIn wsX3_readOne (wsV RX3 82 RX3 yX3_emit wsX3_emit) := goodIn_app (goodIn_of _ (by decide +kernel)) ggX3_readOne_X3_emit
set_option maxRecDepth 100000 in
theorem ggX3_readOne_X3_advance : GoodIn wsX3_readOne wsX3_advance := goodIn_r _ [13, 14, 15, 16, 17, 18, 1, 19, 20, 6, 21, 22, 23, 24, 25, 26, 27, 28, 29, 30, 31, 32, 33, 34, 35, 36, 37, 38, 39, 40, 41, 42, 43, 44, 45, 46, 47, 48, 49, 50, 51, 52, 53, 54, 55, 56, 57, 58, 59, 60, 61, 62, 63, 64, 65, 66, 67, 68, 69, 70, 71, 72, 73, 74, 75, 76, 77, 78, 79, 80, 81, 82, 83, 84, 85, 86, 87, 88, 124, 125, 126, 127, 128, 129, 130, 131, 132, 133] rfl (by decide +kernel)
set_option maxRecDepth 100000 in
theorem gX3_readOne_X3_advance : GoodIn wsX3_readOne (wsV RX3 50 RX3 yX3_advance wsX3_advance) := goodIn_app (goodIn_of _ (by decide +kernel)) ggX3_readOne_X3_advance
set_option maxRecDepth 100000 in
theorem ggX3_readOne_X3_opens : GoodIn wsX3_readOne wsX3_opens := goodIn_r _ [92, 2, 93, 94, 95, 6, 96, 14, 18, 1, 10, 11, 12, 13, 15, 16, 17, 19, 20, 21, 22, 23, 24, 25, 26, 27, 28, 29, 30, 31, 32, 33, 34, 35, 36, 37, 38, 39, 40, 41, 42, 43, 44, 45, 46, 47, 48, 49, 50, 51, 52, 53, 54, 55, 56, 57, 58, 59, 60, 61, 62, 63, 64, 65, 66, 67, 68, 69, 70, 71, 72, 73, 74, 75, 76, 77, 78, 79, 80, 81, 82, 83, 84, 85, 86, 87, 88, 124, 125, 126, 127, 128, 129, 130, 131, 132, 133] rfl (by decide +kernel)
set_option maxRecDepth 100000 in
theorem gX3_readOne_X3_opens : GoodIn wsX3_readOne (wsV RX3 88 RX3 yX3_opens wsX3_opens) := goodIn_app (goodIn_of _ (by decide +kernel)) ggX3_readOne_X3_opens
set_option maxRecDepth 100000 in
theorem ggX3_readOne_X3_readOne : GoodIn wsX3_readOne wsX3_readOne := goodIn_r _ [0, 1, 2, 3, 4, 5, 6, 7, 8, 9, 10, 11, 12, 13, 14, 15, 16, 17, 18, 19, 20, 21, 22, 23, 24, 25, 26, 27, 28, 29, 30, 31, 32, 33, 34, 35, 36, 37, 38, 39, 40, 41, 42, 43, 44, 45, 46, 47, 48, 49, 50, 51, 52, 53, 54, 55, 56, 57, 58, 59, 60, 61, 62, 63, 64, 65, 66, 67, 68, 69, 70, 71, 72, 73, 74, 75, 76, 77, 78, 79, 80, 81, 82, 83, 84, 85, 86, 87, 88, 89, 90, 91, 92, 93, 94, 95, 96, 97, 98, 99, 100, 101, 102, 103, 104, 105, 106, 107, 108, 109, 110, 111, 112, 113, 114, 115, 116, 117, 118, 119, 120, 121, 122, 123, 124, 125, 126, 127, 128, 129, 130, 131, 132, 133] rfl (by decide +kernel)
set_option maxRecDepth 100000 in
theorem gX3_readOne_X3_readOne : GoodIn wsX3_readOne (wsV RX3 98 RX3 yX3_readOne wsX3_readOne) := goodIn_app (goodIn_of _ (by decide +kernel)) ggX3_readOne_X3_readOne
set_option maxRecDepth 100000 in
theorem ggX3_readOne_X3_readOr : GoodIn wsX3_readOne wsX3_readOr := goodIn_r _ [115, 1, 116, 117, 118, 6, 10, 11, 12, 13, 14, 15, 16, 17, 18, 19, 20, 21, 22, 23, 24, 25, 26, 27, 28, 29, 30, 31, 32, 33, 34, 35, 36, 37, 38, 39, 40, 41, 42, 43, 44, 45, 46, 47, 48, 49, 50, 51, 52, 53, 54, 55, 56, 57, 58, 59, 60, 61, 62, 63, 64, 65, 66, 67, 68, 69, 70, 71, 72, 73, 74, 75, 76, 77, 78, 79, 80, 81, 82, 83, 84, 85, 86, 87, 88, 3, 4, 5, 7, 8, 9, 107, 108, 109, 110, 111, 2, 89, 90, 91, 92, 93, 94, 95, 96, 112, 113, 114, 0, 97, 98, 99, 100, 101, 102, 103, 104, 105, 106, 119, 120, 121, 122, 123, 124, 125, 126, 127, 128, 129, 130, 131, 132, 133] rfl (by decide +kernel)
set_option maxRecDepth 100000 in
theorem gX3_readOne_X3_readOr : GoodIn wsX3_readOne (wsV RX3 57 RX3 yX3_readOr wsX3_readOr) := goodIn_app (goodIn_of _ (by decide +kernel)) ggX3_readOne_X3_readOr
set_option maxRecDepth 100000 in
theorem ggX3_readOne_X3_take : GoodIn wsX3_readOne wsX3_take := goodIn_r _ [106, 1, 10, 11, 12, 6, 13, 14, 15, 16, 17, 18, 19, 20, 21, 22, 23, 24, 25, 26, 27, 28, 29, 30, 31, 32, 33, 34, 35, 36, 37, 38, 39, 40, 41, 42, 43, 44, 45, 46, 47, 48, 49, 50, 51, 52, 53, 54, 55, 56, 57, 58, 59, 60, 61, 62, 63, 64, 65, 66, 67, 68, 69, 70, 71, 72, 73, 74, 75, 76, 77, 78, 79, 80, 81, 82, 83, 84, 85, 86, 87, 88, 93, 94, 95, 96, 124, 125, 126, 127, 128, 129, 130, 131, 132, 133] rfl (by decide +kernel)
set_option maxRecDepth 100000 in
theorem gX3_readOne_X3_take : GoodIn wsX3_readOne (wsV RX3 53 RX3 yX3_take wsX3_take) := goodIn_app (goodIn_of _ (by decide +kernel)) ggX3_readOne_X3_take
set_option maxRecDepth 100000 in
theorem ggX3_readOne_X3_refuse : GoodIn wsX3_readOne wsX3_refuse := goodIn_r _ [96, 14, 18, 1, 124, 125, 126, 127, 128, 129, 130, 131, 132, 133] rfl (by decide +kernel)
set_option maxRecDepth 100000 in
theorem gX3_readOne_X3_refuse : GoodIn wsX3_readOne (wsV RX3 76 RX3 yX3_refuse wsX3_refuse) := goodIn_app (goodIn_of _ (by decide +kernel)) ggX3_readOne_X3_refuse
theorem dX3_readOne_0 : decode cX3_readOne 0 = .ok (.aload_n 0, 1) := by decide +kernel
theorem dX3_readOne_1 : decode cX3_readOne 1 = .ok (.getfield 18, 3) := by decide +kernel
theorem dX3_readOne_4 : decode cX3_readOne 4 = .ok (.sipush 262, 3) := by decide +kernel
theorem dX3_readOne_7 : decode cX3_readOne 7 = .ok (.if_icmp .lt 18, 3) := by decide +kernel
theorem dX3_readOne_10 : decode cX3_readOne 10 = .ok (.aload_n 0, 1) := by decide +kernel
theorem dX3_readOne_11 : decode cX3_readOne 11 = .ok (.aload_n 0, 1) := by decide +kernel
theorem dX3_readOne_12 : decode cX3_readOne 12 = .ok (.getfield 18, 3) := by decide +kernel
theorem dX3_readOne_15 : decode cX3_readOne 15 = .ok (.invokevirtual 82, 3) := by decide +kernel
theorem dX3_readOne_18 : decode cX3_readOne 18 = .ok (.aload_n 0, 1) := by decide +kernel
theorem dX3_readOne_19 : decode cX3_readOne 19 = .ok (.invokevirtual 50, 3) := by decide +kernel
theorem dX3_readOne_22 : decode cX3_readOne 22 = .ok (.goto 84, 3) := by decide +kernel
theorem dX3_readOne_25 : decode cX3_readOne 25 = .ok (.aload_n 0, 1) := by decide +kernel
theorem dX3_readOne_26 : decode cX3_readOne 26 = .ok (.getfield 18, 3) := by decide +kernel
theorem dX3_readOne_29 : decode cX3_readOne 29 = .ok (.bipush 45, 2) := by decide +kernel
theorem dX3_readOne_31 : decode cX3_readOne 31 = .ok (.if_icmp .ne 32, 3) := by decide +kernel
theorem dX3_readOne_34 : decode cX3_readOne 34 = .ok (.aload_n 0, 1) := by decide +kernel
theorem dX3_readOne_35 : decode cX3_readOne 35 = .ok (.invokevirtual 88, 3) := by decide +kernel
theorem dX3_readOne_38 : decode cX3_readOne 38 = .ok (.ifCond .eq 68, 3) := by decide +kernel
theorem dX3_readOne_41 : decode cX3_readOne 41 = .ok (.aload_n 0, 1) := by decide +kernel
theorem dX3_readOne_42 : decode cX3_readOne 42 = .ok (.invokevirtual 98, 3) := by decide +kernel
theorem dX3_readOne_45 : decode cX3_readOne 45 = .ok (.aload_n 0, 1) := by decide +kernel
theorem dX3_readOne_46 : decode cX3_readOne 46 = .ok (.dup, 1) := by decide +kernel
theorem dX3_readOne_47 : decode cX3_readOne 47 = .ok (.getfield 27, 3) := by decide +kernel
theorem dX3_readOne_50 : decode cX3_readOne 50 = .ok (.iconst 1, 1) := by decide +kernel
theorem dX3_readOne_51 : decode cX3_readOne 51 = .ok (.isub, 1) := by decide +kernel
theorem dX3_readOne_52 : decode cX3_readOne 52 = .ok (.putfield 27, 3) := by decide +kernel
theorem dX3_readOne_55 : decode cX3_readOne 55 = .ok (.aload_n 0, 1) := by decide +kernel
theorem dX3_readOne_56 : decode cX3_readOne 56 = .ok (.iconst 1, 1) := by decide +kernel
theorem dX3_readOne_57 : decode cX3_readOne 57 = .ok (.invokevirtual 82, 3) := by decide +kernel
theorem dX3_readOne_60 : decode cX3_readOne 60 = .ok (.goto 46, 3) := by decide +kernel
theorem dX3_readOne_63 : decode cX3_readOne 63 = .ok (.aload_n 0, 1) := by decide +kernel
theorem dX3_readOne_64 : decode cX3_readOne 64 = .ok (.getfield 18, 3) := by decide +kernel
theorem dX3_readOne_67 : decode cX3_readOne 67 = .ok (.bipush 40, 2) := by decide +kernel
theorem dX3_readOne_69 : decode cX3_readOne 69 = .ok (.if_icmp .ne 33, 3) := by decide +kernel
theorem dX3_readOne_72 : decode cX3_readOne 72 = .ok (.aload_n 0, 1) := by decide +kernel
theorem dX3_readOne_73 : decode cX3_readOne 73 = .ok (.invokevirtual 88, 3) := by decide +kernel
theorem dX3_readOne_76 : decode cX3_readOne 76 = .ok (.ifCond .eq 30, 3) := by decide +kernel
theorem dX3_readOne_79 : decode cX3_readOne 79 = .ok (.aload_n 0, 1) := by decide +kernel
theorem dX3_readOne_80 : decode cX3_readOne 80 = .ok (.invokevirtual 57, 3) := by decide +kernel
theorem dX3_readOne_83 : decode cX3_readOne 83 = .ok (.aload_n 0, 1) := by decide +kernel
theorem dX3_readOne_84 : decode cX3_readOne 84 = .ok (.bipush 41, 2) := by decide +kernel
theorem dX3_readOne_86 : decode cX3_readOne 86 = .ok (.invokevirtual 53, 3) := by decide +kernel
theorem dX3_readOne_89 : decode cX3_readOne 89 = .ok (.aload_n 0, 1) := by decide +kernel
theorem dX3_readOne_90 : decode cX3_readOne 90 = .ok (.dup, 1) := by decide +kernel
theorem dX3_readOne_91 : decode cX3_readOne 91 = .ok (.getfield 27, 3) := by decide +kernel
theorem dX3_readOne_94 : decode cX3_readOne 94 = .ok (.iconst 1, 1) := by decide +kernel
theorem dX3_readOne_95 : decode cX3_readOne 95 = .ok (.isub, 1) := by decide +kernel
theorem dX3_readOne_96 : decode cX3_readOne 96 = .ok (.putfield 27, 3) := by decide +kernel
theorem dX3_readOne_99 : decode cX3_readOne 99 = .ok (.goto 7, 3) := by decide +kernel
theorem dX3_readOne_102 : decode cX3_readOne 102 = .ok (.aload_n 0, 1) := by decide +kernel
theorem dX3_readOne_103 : decode cX3_readOne 103 = .ok (.invokevirtual 76, 3) := by decide +kernel
theorem dX3_readOne_106 : decode cX3_readOne 106 = .ok (.return_, 1) := by decide +kernel
set_option maxRecDepth 100000 in
theorem ggX3_advance_X3_isLetter : GoodIn wsX3_advance wsX3_isLetter := goodIn_r _ [10] rfl (by decide +kernel)
set_option maxRecDepth 100000 in
theorem gX3_advance_X3_isLetter : GoodIn wsX3_advance (va_wsS RX3 101 yX3_isLetter wsX3_isLetter) := goodIn_app (goodIn_of _ (by decide +kernel)) ggX3_advance_X3_isLetter
set_option maxRecDepth 100000 in
theorem ggX3_advance_X3_word : GoodIn wsX3_advance wsX3_word := goodIn_r _ [14, 2, 3, 4, 7, 8, 9, 10, 15, 16, 17, 18, 19, 20, 21, 22, 23, 24, 25, 26, 27, 28, 29, 30, 31, 32, 33, 34, 35, 36, 37, 38, 39, 40, 41, 42, 43, 44, 45, 46, 47, 48, 49, 50, 51, 52, 53, 54, 55, 56, 57, 58, 59, 60, 61, 62, 63, 64, 65, 66, 67, 78, 79, 80, 81, 82, 83, 84, 85, 86, 87] rfl (by decide +kernel)
set_option maxRecDepth 100000 in
theorem gX3_advance_X3_word : GoodIn wsX3_advance (wsV RX3 105 RX3 yX3_word wsX3_word) := goodIn_app (goodIn_of _ (by decide +kernel)) ggX3_advance_X3_word
set_option maxRecDepth 100000 in
theorem ggX3_advance_X3_isDigit : GoodIn wsX3_advance wsX3_isDigit := goodIn_r _ [70] rfl (by decide +kernel)
set_option maxRecDepth 100000 in
theorem gX3_advance_X3_isDigit : GoodIn wsX3_advance (va_wsS RX3 109 yX3_isDigit wsX3_isDigit) := goodIn_app (goodIn_of _ (by decide +kernel)) ggX3_advance_X3_isDigit
set_option maxRecDepth 100000 in
theorem ggX3_advance_X3_number : GoodIn wsX3_advance wsX3_number := goodIn_r _ [74, 2, 3, 4, 68, 69, 9, 70, 78, 79, 80, 81, 82, 83, 84, 85, 86, 87] rfl (by decide +kernel)
set_option maxRecDepth 100000 in
theorem gX3_advance_X3_number : GoodIn wsX3_advance (wsV RX3 112 RX3 yX3_number wsX3_number) := goodIn_app (goodIn_of _ (by decide +kernel)) ggX3_advance_X3_number
set_option maxRecDepth 100000 in
theorem ggX3_advance_X3_isSign : GoodIn wsX3_advance wsX3_isSign := goodIn_r _ [77] rfl (by decide +kernel)
set_option maxRecDepth 100000 in
theorem gX3_advance_X3_isSign : GoodIn wsX3_advance (va_wsS RX3 115 yX3_isSign wsX3_isSign) := goodIn_app (goodIn_of _ (by decide +kernel)) ggX3_advance_X3_isSign
theorem dX3_advance_0 : decode cX3_advance 0 = .ok (.aload_n 0, 1) := by decide +kernel
theorem dX3_advance_1 : decode cX3_advance 1 = .ok (.getfield 24, 3) := by decide +kernel
theorem dX3_advance_4 : decode cX3_advance 4 = .ok (.iconst (-1), 1) := by decide +kernel
theorem dX3_advance_5 : decode cX3_advance 5 = .ok (.if_icmp .eq 4, 3) := by decide +kernel
theorem dX3_advance_8 : decode cX3_advance 8 = .ok (.return_, 1) := by decide +kernel
theorem dX3_advance_9 : decode cX3_advance 9 = .ok (.aload_n 0, 1) := by decide +kernel
theorem dX3_advance_10 : decode cX3_advance 10 = .ok (.getfield 15, 3) := by decide +kernel
theorem dX3_advance_13 : decode cX3_advance 13 = .ok (.aload_n 0, 1) := by decide +kernel
theorem dX3_advance_14 : decode cX3_advance 14 = .ok (.getfield 11, 3) := by decide +kernel
theorem dX3_advance_17 : decode cX3_advance 17 = .ok (.if_icmp .ge 44, 3) := by decide +kernel
theorem dX3_advance_20 : decode cX3_advance 20 = .ok (.aload_n 0, 1) := by decide +kernel
theorem dX3_advance_21 : decode cX3_advance 21 = .ok (.getfield 40, 3) := by decide +kernel
theorem dX3_advance_24 : decode cX3_advance 24 = .ok (.aload_n 0, 1) := by decide +kernel
theorem dX3_advance_25 : decode cX3_advance 25 = .ok (.getfield 15, 3) := by decide +kernel
theorem dX3_advance_28 : decode cX3_advance 28 = .ok (.baload, 1) := by decide +kernel
theorem dX3_advance_29 : decode cX3_advance 29 = .ok (.bipush 32, 2) := by decide +kernel
theorem dX3_advance_31 : decode cX3_advance 31 = .ok (.if_icmp .eq 17, 3) := by decide +kernel
theorem dX3_advance_34 : decode cX3_advance 34 = .ok (.aload_n 0, 1) := by decide +kernel
theorem dX3_advance_35 : decode cX3_advance 35 = .ok (.getfield 40, 3) := by decide +kernel
theorem dX3_advance_38 : decode cX3_advance 38 = .ok (.aload_n 0, 1) := by decide +kernel
theorem dX3_advance_39 : decode cX3_advance 39 = .ok (.getfield 15, 3) := by decide +kernel
theorem dX3_advance_42 : decode cX3_advance 42 = .ok (.baload, 1) := by decide +kernel
theorem dX3_advance_43 : decode cX3_advance 43 = .ok (.bipush 10, 2) := by decide +kernel
theorem dX3_advance_45 : decode cX3_advance 45 = .ok (.if_icmp .ne 16, 3) := by decide +kernel
theorem dX3_advance_48 : decode cX3_advance 48 = .ok (.aload_n 0, 1) := by decide +kernel
theorem dX3_advance_49 : decode cX3_advance 49 = .ok (.dup, 1) := by decide +kernel
theorem dX3_advance_50 : decode cX3_advance 50 = .ok (.getfield 15, 3) := by decide +kernel
theorem dX3_advance_53 : decode cX3_advance 53 = .ok (.iconst 1, 1) := by decide +kernel
theorem dX3_advance_54 : decode cX3_advance 54 = .ok (.iadd, 1) := by decide +kernel
theorem dX3_advance_55 : decode cX3_advance 55 = .ok (.putfield 15, 3) := by decide +kernel
theorem dX3_advance_58 : decode cX3_advance 58 = .ok (.goto (-49), 3) := by decide +kernel
theorem dX3_advance_61 : decode cX3_advance 61 = .ok (.aload_n 0, 1) := by decide +kernel
theorem dX3_advance_62 : decode cX3_advance 62 = .ok (.aload_n 0, 1) := by decide +kernel
theorem dX3_advance_63 : decode cX3_advance 63 = .ok (.getfield 15, 3) := by decide +kernel
theorem dX3_advance_66 : decode cX3_advance 66 = .ok (.putfield 21, 3) := by decide +kernel
theorem dX3_advance_69 : decode cX3_advance 69 = .ok (.aload_n 0, 1) := by decide +kernel
theorem dX3_advance_70 : decode cX3_advance 70 = .ok (.getfield 15, 3) := by decide +kernel
theorem dX3_advance_73 : decode cX3_advance 73 = .ok (.aload_n 0, 1) := by decide +kernel
theorem dX3_advance_74 : decode cX3_advance 74 = .ok (.getfield 11, 3) := by decide +kernel
theorem dX3_advance_77 : decode cX3_advance 77 = .ok (.if_icmp .lt 11, 3) := by decide +kernel
theorem dX3_advance_80 : decode cX3_advance 80 = .ok (.aload_n 0, 1) := by decide +kernel
theorem dX3_advance_81 : decode cX3_advance 81 = .ok (.iconst 0, 1) := by decide +kernel
theorem dX3_advance_82 : decode cX3_advance 82 = .ok (.putfield 18, 3) := by decide +kernel
theorem dX3_advance_85 : decode cX3_advance 85 = .ok (.goto 97, 3) := by decide +kernel
theorem dX3_advance_88 : decode cX3_advance 88 = .ok (.aload_n 0, 1) := by decide +kernel
theorem dX3_advance_89 : decode cX3_advance 89 = .ok (.getfield 40, 3) := by decide +kernel
theorem dX3_advance_92 : decode cX3_advance 92 = .ok (.aload_n 0, 1) := by decide +kernel
theorem dX3_advance_93 : decode cX3_advance 93 = .ok (.getfield 15, 3) := by decide +kernel
theorem dX3_advance_96 : decode cX3_advance 96 = .ok (.baload, 1) := by decide +kernel
theorem dX3_advance_97 : decode cX3_advance 97 = .ok (.invokestatic 101, 3) := by decide +kernel
theorem dX3_advance_100 : decode cX3_advance 100 = .ok (.ifCond .eq 14, 3) := by decide +kernel

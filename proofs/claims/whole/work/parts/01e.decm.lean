theorem dX1_init_0 : decode cX1_init 0 = .ok (.aload_n 0, 1) := by decide +kernel
theorem dX1_init_1 : decode cX1_init 1 = .ok (.invokespecial 1, 3) := by decide +kernel
theorem dX1_init_4 : decode cX1_init 4 = .ok (.aload_n 0, 1) := by decide +kernel
theorem dX1_init_5 : decode cX1_init 5 = .ok (.bipush 16, 2) := by decide +kernel
theorem dX1_init_7 : decode cX1_init 7 = .ok (.newarray .int, 2) := by decide +kernel
theorem dX1_init_9 : decode cX1_init 9 = .ok (.putfield 7, 3) := by decide +kernel
theorem dX1_init_12 : decode cX1_init 12 = .ok (.aload_n 0, 1) := by decide +kernel
theorem dX1_init_13 : decode cX1_init 13 = .ok (.bipush 16, 2) := by decide +kernel
theorem dX1_init_15 : decode cX1_init 15 = .ok (.newarray .int, 2) := by decide +kernel
theorem dX1_init_17 : decode cX1_init 17 = .ok (.putfield 13, 3) := by decide +kernel
theorem dX1_init_20 : decode cX1_init 20 = .ok (.aload_n 0, 1) := by decide +kernel
theorem dX1_init_21 : decode cX1_init 21 = .ok (.bipush 16, 2) := by decide +kernel
theorem dX1_init_23 : decode cX1_init 23 = .ok (.newarray .int, 2) := by decide +kernel
theorem dX1_init_25 : decode cX1_init 25 = .ok (.putfield 16, 3) := by decide +kernel
theorem dX1_init_28 : decode cX1_init 28 = .ok (.aload_n 0, 1) := by decide +kernel
theorem dX1_init_29 : decode cX1_init 29 = .ok (.bipush 16, 2) := by decide +kernel
theorem dX1_init_31 : decode cX1_init 31 = .ok (.newarray .int, 2) := by decide +kernel
theorem dX1_init_33 : decode cX1_init 33 = .ok (.putfield 19, 3) := by decide +kernel
theorem dX1_init_36 : decode cX1_init 36 = .ok (.aload_n 0, 1) := by decide +kernel
theorem dX1_init_37 : decode cX1_init 37 = .ok (.bipush 64, 2) := by decide +kernel
theorem dX1_init_39 : decode cX1_init 39 = .ok (.newarray .int, 2) := by decide +kernel
theorem dX1_init_41 : decode cX1_init 41 = .ok (.putfield 22, 3) := by decide +kernel
theorem dX1_init_44 : decode cX1_init 44 = .ok (.aload_n 0, 1) := by decide +kernel
theorem dX1_init_45 : decode cX1_init 45 = .ok (.bipush 40, 2) := by decide +kernel
theorem dX1_init_47 : decode cX1_init 47 = .ok (.newarray .int, 2) := by decide +kernel
theorem dX1_init_49 : decode cX1_init 49 = .ok (.putfield 25, 3) := by decide +kernel
theorem dX1_init_52 : decode cX1_init 52 = .ok (.aload_n 0, 1) := by decide +kernel
theorem dX1_init_53 : decode cX1_init 53 = .ok (.bipush 40, 2) := by decide +kernel
theorem dX1_init_55 : decode cX1_init 55 = .ok (.newarray .int, 2) := by decide +kernel
theorem dX1_init_57 : decode cX1_init 57 = .ok (.putfield 28, 3) := by decide +kernel
theorem dX1_init_60 : decode cX1_init 60 = .ok (.aload_n 0, 1) := by decide +kernel
theorem dX1_init_61 : decode cX1_init 61 = .ok (.bipush 40, 2) := by decide +kernel
theorem dX1_init_63 : decode cX1_init 63 = .ok (.newarray .int, 2) := by decide +kernel
theorem dX1_init_65 : decode cX1_init 65 = .ok (.putfield 31, 3) := by decide +kernel
theorem dX1_init_68 : decode cX1_init 68 = .ok (.aload_n 0, 1) := by decide +kernel
theorem dX1_init_69 : decode cX1_init 69 = .ok (.bipush 40, 2) := by decide +kernel
theorem dX1_init_71 : decode cX1_init 71 = .ok (.newarray .int, 2) := by decide +kernel
theorem dX1_init_73 : decode cX1_init 73 = .ok (.putfield 34, 3) := by decide +kernel
theorem dX1_init_76 : decode cX1_init 76 = .ok (.aload_n 0, 1) := by decide +kernel
theorem dX1_init_77 : decode cX1_init 77 = .ok (.iconst 4, 1) := by decide +kernel
theorem dX1_init_78 : decode cX1_init 78 = .ok (.newarray .int, 2) := by decide +kernel
theorem dX1_init_80 : decode cX1_init 80 = .ok (.putfield 37, 3) := by decide +kernel
theorem dX1_init_83 : decode cX1_init 83 = .ok (.aload_n 0, 1) := by decide +kernel
theorem dX1_init_84 : decode cX1_init 84 = .ok (.bipush 40, 2) := by decide +kernel
theorem dX1_init_86 : decode cX1_init 86 = .ok (.newarray .int, 2) := by decide +kernel
theorem dX1_init_88 : decode cX1_init 88 = .ok (.putfield 40, 3) := by decide +kernel
theorem dX1_init_91 : decode cX1_init 91 = .ok (.aload_n 0, 1) := by decide +kernel
theorem dX1_init_92 : decode cX1_init 92 = .ok (.bipush 40, 2) := by decide +kernel
theorem dX1_init_94 : decode cX1_init 94 = .ok (.newarray .int, 2) := by decide +kernel
theorem dX1_init_96 : decode cX1_init 96 = .ok (.putfield 43, 3) := by decide +kernel
theorem dX1_init_99 : decode cX1_init 99 = .ok (.aload_n 0, 1) := by decide +kernel
theorem dX1_init_100 : decode cX1_init 100 = .ok (.bipush 40, 2) := by decide +kernel
theorem dX1_init_102 : decode cX1_init 102 = .ok (.newarray .int, 2) := by decide +kernel
theorem dX1_init_104 : decode cX1_init 104 = .ok (.putfield 46, 3) := by decide +kernel
theorem dX1_init_107 : decode cX1_init 107 = .ok (.aload_n 0, 1) := by decide +kernel
theorem dX1_init_108 : decode cX1_init 108 = .ok (.bipush 40, 2) := by decide +kernel
theorem dX1_init_110 : decode cX1_init 110 = .ok (.newarray .boolean, 2) := by decide +kernel
theorem dX1_init_112 : decode cX1_init 112 = .ok (.putfield 49, 3) := by decide +kernel
theorem dX1_init_115 : decode cX1_init 115 = .ok (.return_, 1) := by decide +kernel
theorem dX1_thrown_0 : decode cX1_thrown 0 = .ok (.aload_n 0, 1) := by decide +kernel
theorem dX1_thrown_1 : decode cX1_thrown 1 = .ok (.getfield 53, 3) := by decide +kernel
theorem dX1_thrown_4 : decode cX1_thrown 4 = .ok (.ireturn, 1) := by decide +kernel
theorem dX1_isIn_0 : decode cX1_isIn 0 = .ok (.iload_n 0, 1) := by decide +kernel
theorem dX1_isIn_1 : decode cX1_isIn 1 = .ok (.iload_n 1, 1) := by decide +kernel
theorem dX1_isIn_2 : decode cX1_isIn 2 = .ok (.if_icmp .lt 12, 3) := by decide +kernel
theorem dX1_isIn_5 : decode cX1_isIn 5 = .ok (.iload_n 0, 1) := by decide +kernel
theorem dX1_isIn_6 : decode cX1_isIn 6 = .ok (.iload_n 2, 1) := by decide +kernel
theorem dX1_isIn_7 : decode cX1_isIn 7 = .ok (.if_icmp .gt 7, 3) := by decide +kernel
theorem dX1_isIn_10 : decode cX1_isIn 10 = .ok (.iconst 1, 1) := by decide +kernel
theorem dX1_isIn_11 : decode cX1_isIn 11 = .ok (.goto 4, 3) := by decide +kernel
theorem dX1_isIn_14 : decode cX1_isIn 14 = .ok (.iconst 0, 1) := by decide +kernel
theorem dX1_isIn_15 : decode cX1_isIn 15 = .ok (.ireturn, 1) := by decide +kernel
set_option maxRecDepth 20000 in
theorem ggX1_isHymn_X1_isIn : GoodIn wsX1_isHymn wsX1_isIn := goodIn_r _ [5] (by decide +kernel) (by decide +kernel)
set_option maxRecDepth 20000 in
theorem gX1_isHymn_X1_isIn : GoodIn wsX1_isHymn (va_wsS RX1 60 yX1_isIn wsX1_isIn) := goodIn_app (goodIn_of _ (by decide +kernel)) ggX1_isHymn_X1_isIn
theorem dX1_isHymn_0 : decode cX1_isHymn 0 = .ok (.iload_n 1, 1) := by decide +kernel
theorem dX1_isHymn_1 : decode cX1_isHymn 1 = .ok (.iconst 0, 1) := by decide +kernel
theorem dX1_isHymn_2 : decode cX1_isHymn 2 = .ok (.aload_n 0, 1) := by decide +kernel
theorem dX1_isHymn_3 : decode cX1_isHymn 3 = .ok (.getfield 57, 3) := by decide +kernel
theorem dX1_isHymn_6 : decode cX1_isHymn 6 = .ok (.iconst 1, 1) := by decide +kernel
theorem dX1_isHymn_7 : decode cX1_isHymn 7 = .ok (.isub, 1) := by decide +kernel
theorem dX1_isHymn_8 : decode cX1_isHymn 8 = .ok (.invokestatic 60, 3) := by decide +kernel
theorem dX1_isHymn_11 : decode cX1_isHymn 11 = .ok (.ireturn, 1) := by decide +kernel
set_option maxRecDepth 20000 in
theorem ggX1_isUse_X1_isIn : GoodIn wsX1_isUse wsX1_isIn := goodIn_r _ [4] (by decide +kernel) (by decide +kernel)
set_option maxRecDepth 20000 in
theorem gX1_isUse_X1_isIn : GoodIn wsX1_isUse (va_wsS RX1 60 yX1_isIn wsX1_isIn) := goodIn_app (goodIn_of _ (by decide +kernel)) ggX1_isUse_X1_isIn
theorem dX1_isUse_0 : decode cX1_isUse 0 = .ok (.iload_n 0, 1) := by decide +kernel
theorem dX1_isUse_1 : decode cX1_isUse 1 = .ok (.iconst 0, 1) := by decide +kernel
theorem dX1_isUse_2 : decode cX1_isUse 2 = .ok (.iconst 1, 1) := by decide +kernel
theorem dX1_isUse_3 : decode cX1_isUse 3 = .ok (.invokestatic 60, 3) := by decide +kernel
theorem dX1_isUse_6 : decode cX1_isUse 6 = .ok (.ireturn, 1) := by decide +kernel
set_option maxRecDepth 20000 in
theorem ggX1_isDay_X1_isIn : GoodIn wsX1_isDay wsX1_isIn := goodIn_r _ [4] (by decide +kernel) (by decide +kernel)
set_option maxRecDepth 20000 in
theorem gX1_isDay_X1_isIn : GoodIn wsX1_isDay (va_wsS RX1 60 yX1_isIn wsX1_isIn) := goodIn_app (goodIn_of _ (by decide +kernel)) ggX1_isDay_X1_isIn
theorem dX1_isDay_0 : decode cX1_isDay 0 = .ok (.iload_n 0, 1) := by decide +kernel
theorem dX1_isDay_1 : decode cX1_isDay 1 = .ok (.iconst 0, 1) := by decide +kernel
theorem dX1_isDay_2 : decode cX1_isDay 2 = .ok (.sipush 1459, 3) := by decide +kernel
theorem dX1_isDay_5 : decode cX1_isDay 5 = .ok (.invokestatic 60, 3) := by decide +kernel
theorem dX1_isDay_8 : decode cX1_isDay 8 = .ok (.ireturn, 1) := by decide +kernel
set_option maxRecDepth 20000 in
theorem ggX1_hymn_X1_isIn : GoodIn wsX1_hymn wsX1_isIn := goodIn_r _ [10] (by decide +kernel) (by decide +kernel)
set_option maxRecDepth 20000 in
theorem gX1_hymn_X1_isIn : GoodIn wsX1_hymn (va_wsS RX1 60 yX1_isIn wsX1_isIn) := goodIn_app (goodIn_of _ (by decide +kernel)) ggX1_hymn_X1_isIn
theorem dX1_hymn_0 : decode cX1_hymn 0 = .ok (.iload_n 2, 1) := by decide +kernel
theorem dX1_hymn_1 : decode cX1_hymn 1 = .ok (.iconst 1, 1) := by decide +kernel
theorem dX1_hymn_2 : decode cX1_hymn 2 = .ok (.bipush 15, 2) := by decide +kernel
theorem dX1_hymn_4 : decode cX1_hymn 4 = .ok (.invokestatic 60, 3) := by decide +kernel
theorem dX1_hymn_7 : decode cX1_hymn 7 = .ok (.ifCond .eq 43, 3) := by decide +kernel
theorem dX1_hymn_10 : decode cX1_hymn 10 = .ok (.iload_n 3, 1) := by decide +kernel
theorem dX1_hymn_11 : decode cX1_hymn 11 = .ok (.iconst 1, 1) := by decide +kernel
theorem dX1_hymn_12 : decode cX1_hymn 12 = .ok (.bipush 30, 2) := by decide +kernel
theorem dX1_hymn_14 : decode cX1_hymn 14 = .ok (.invokestatic 60, 3) := by decide +kernel
theorem dX1_hymn_17 : decode cX1_hymn 17 = .ok (.ifCond .eq 33, 3) := by decide +kernel
theorem dX1_hymn_20 : decode cX1_hymn 20 = .ok (.iload 4, 2) := by decide +kernel
theorem dX1_hymn_22 : decode cX1_hymn 22 = .ok (.ifCond .lt 28, 3) := by decide +kernel
theorem dX1_hymn_25 : decode cX1_hymn 25 = .ok (.iload 4, 2) := by decide +kernel
theorem dX1_hymn_27 : decode cX1_hymn 27 = .ok (.iload_n 3, 1) := by decide +kernel
theorem dX1_hymn_28 : decode cX1_hymn 28 = .ok (.iconst 1, 1) := by decide +kernel
theorem dX1_hymn_29 : decode cX1_hymn 29 = .ok (.bipush 30, 2) := by decide +kernel
theorem dX1_hymn_31 : decode cX1_hymn 31 = .ok (.invokestatic 60, 3) := by decide +kernel
theorem dX1_hymn_34 : decode cX1_hymn 34 = .ok (.ifCond .eq 7, 3) := by decide +kernel
theorem dX1_hymn_37 : decode cX1_hymn 37 = .ok (.iload_n 3, 1) := by decide +kernel
theorem dX1_hymn_38 : decode cX1_hymn 38 = .ok (.goto 4, 3) := by decide +kernel
theorem dX1_hymn_41 : decode cX1_hymn 41 = .ok (.iconst 1, 1) := by decide +kernel
theorem dX1_hymn_42 : decode cX1_hymn 42 = .ok (.ishr, 1) := by decide +kernel
theorem dX1_hymn_43 : decode cX1_hymn 43 = .ok (.ifCond .ne 7, 3) := by decide +kernel
theorem dX1_hymn_46 : decode cX1_hymn 46 = .ok (.iconst 1, 1) := by decide +kernel
theorem dX1_hymn_47 : decode cX1_hymn 47 = .ok (.goto 4, 3) := by decide +kernel
theorem dX1_hymn_50 : decode cX1_hymn 50 = .ok (.iconst 0, 1) := by decide +kernel
theorem dX1_hymn_51 : decode cX1_hymn 51 = .ok (.istore 5, 2) := by decide +kernel
theorem dX1_hymn_53 : decode cX1_hymn 53 = .ok (.aload_n 0, 1) := by decide +kernel
theorem dX1_hymn_54 : decode cX1_hymn 54 = .ok (.iload_n 1, 1) := by decide +kernel
theorem dX1_hymn_55 : decode cX1_hymn 55 = .ok (.iconst 0, 1) := by decide +kernel
theorem dX1_hymn_56 : decode cX1_hymn 56 = .ok (.iconst 4, 1) := by decide +kernel
theorem dX1_hymn_57 : decode cX1_hymn 57 = .ok (.invokestatic 60, 3) := by decide +kernel
theorem dX1_hymn_60 : decode cX1_hymn 60 = .ok (.ifCond .ne 7, 3) := by decide +kernel
theorem dX1_hymn_63 : decode cX1_hymn 63 = .ok (.iconst 1, 1) := by decide +kernel
theorem dX1_hymn_64 : decode cX1_hymn 64 = .ok (.goto 26, 3) := by decide +kernel
theorem dX1_hymn_67 : decode cX1_hymn 67 = .ok (.iload 5, 2) := by decide +kernel
theorem dX1_hymn_69 : decode cX1_hymn 69 = .ok (.ifCond .ne 7, 3) := by decide +kernel
theorem dX1_hymn_72 : decode cX1_hymn 72 = .ok (.iconst 2, 1) := by decide +kernel
theorem dX1_hymn_73 : decode cX1_hymn 73 = .ok (.goto 17, 3) := by decide +kernel
theorem dX1_hymn_76 : decode cX1_hymn 76 = .ok (.aload_n 0, 1) := by decide +kernel
theorem dX1_hymn_77 : decode cX1_hymn 77 = .ok (.getfield 57, 3) := by decide +kernel
theorem dX1_hymn_80 : decode cX1_hymn 80 = .ok (.bipush 16, 2) := by decide +kernel
theorem dX1_hymn_82 : decode cX1_hymn 82 = .ok (.if_icmp .ne 7, 3) := by decide +kernel
theorem dX1_hymn_85 : decode cX1_hymn 85 = .ok (.iconst 3, 1) := by decide +kernel
theorem dX1_hymn_86 : decode cX1_hymn 86 = .ok (.goto 4, 3) := by decide +kernel
theorem dX1_hymn_89 : decode cX1_hymn 89 = .ok (.iconst 0, 1) := by decide +kernel
theorem dX1_hymn_90 : decode cX1_hymn 90 = .ok (.putfield 53, 3) := by decide +kernel
theorem dX1_hymn_93 : decode cX1_hymn 93 = .ok (.aload_n 0, 1) := by decide +kernel
theorem dX1_hymn_94 : decode cX1_hymn 94 = .ok (.getfield 53, 3) := by decide +kernel
theorem dX1_hymn_97 : decode cX1_hymn 97 = .ok (.ifCond .le 5, 3) := by decide +kernel
theorem dX1_hymn_100 : decode cX1_hymn 100 = .ok (.iconst 0, 1) := by decide +kernel
theorem dX1_hymn_101 : decode cX1_hymn 101 = .ok (.ireturn, 1) := by decide +kernel
theorem dX1_hymn_102 : decode cX1_hymn 102 = .ok (.aload_n 0, 1) := by decide +kernel
theorem dX1_hymn_103 : decode cX1_hymn 103 = .ok (.getfield 7, 3) := by decide +kernel
theorem dX1_hymn_106 : decode cX1_hymn 106 = .ok (.aload_n 0, 1) := by decide +kernel
theorem dX1_hymn_107 : decode cX1_hymn 107 = .ok (.getfield 57, 3) := by decide +kernel
theorem dX1_hymn_110 : decode cX1_hymn 110 = .ok (.iload_n 1, 1) := by decide +kernel
theorem dX1_hymn_111 : decode cX1_hymn 111 = .ok (.iastore, 1) := by decide +kernel
theorem dX1_hymn_112 : decode cX1_hymn 112 = .ok (.aload_n 0, 1) := by decide +kernel
theorem dX1_hymn_113 : decode cX1_hymn 113 = .ok (.getfield 13, 3) := by decide +kernel
theorem dX1_hymn_116 : decode cX1_hymn 116 = .ok (.aload_n 0, 1) := by decide +kernel
theorem dX1_hymn_117 : decode cX1_hymn 117 = .ok (.getfield 57, 3) := by decide +kernel
theorem dX1_hymn_120 : decode cX1_hymn 120 = .ok (.iload_n 2, 1) := by decide +kernel
theorem dX1_hymn_121 : decode cX1_hymn 121 = .ok (.iastore, 1) := by decide +kernel
theorem dX1_hymn_122 : decode cX1_hymn 122 = .ok (.aload_n 0, 1) := by decide +kernel
theorem dX1_hymn_123 : decode cX1_hymn 123 = .ok (.getfield 16, 3) := by decide +kernel
theorem dX1_hymn_126 : decode cX1_hymn 126 = .ok (.aload_n 0, 1) := by decide +kernel
theorem dX1_hymn_127 : decode cX1_hymn 127 = .ok (.getfield 57, 3) := by decide +kernel
theorem dX1_hymn_130 : decode cX1_hymn 130 = .ok (.iload_n 3, 1) := by decide +kernel
theorem dX1_hymn_131 : decode cX1_hymn 131 = .ok (.iastore, 1) := by decide +kernel
theorem dX1_hymn_132 : decode cX1_hymn 132 = .ok (.aload_n 0, 1) := by decide +kernel
theorem dX1_hymn_133 : decode cX1_hymn 133 = .ok (.getfield 19, 3) := by decide +kernel
theorem dX1_hymn_136 : decode cX1_hymn 136 = .ok (.aload_n 0, 1) := by decide +kernel
theorem dX1_hymn_137 : decode cX1_hymn 137 = .ok (.getfield 57, 3) := by decide +kernel
theorem dX1_hymn_140 : decode cX1_hymn 140 = .ok (.iload 4, 2) := by decide +kernel
theorem dX1_hymn_142 : decode cX1_hymn 142 = .ok (.iastore, 1) := by decide +kernel
theorem dX1_hymn_143 : decode cX1_hymn 143 = .ok (.aload_n 0, 1) := by decide +kernel
theorem dX1_hymn_144 : decode cX1_hymn 144 = .ok (.dup, 1) := by decide +kernel
theorem dX1_hymn_145 : decode cX1_hymn 145 = .ok (.getfield 57, 3) := by decide +kernel
theorem dX1_hymn_148 : decode cX1_hymn 148 = .ok (.iconst 1, 1) := by decide +kernel
theorem dX1_hymn_149 : decode cX1_hymn 149 = .ok (.iadd, 1) := by decide +kernel
theorem dX1_hymn_150 : decode cX1_hymn 150 = .ok (.putfield 57, 3) := by decide +kernel
theorem dX1_hymn_153 : decode cX1_hymn 153 = .ok (.aload_n 0, 1) := by decide +kernel
theorem dX1_hymn_154 : decode cX1_hymn 154 = .ok (.getfield 57, 3) := by decide +kernel
theorem dX1_hymn_157 : decode cX1_hymn 157 = .ok (.iconst 1, 1) := by decide +kernel
theorem dX1_hymn_158 : decode cX1_hymn 158 = .ok (.isub, 1) := by decide +kernel
theorem dX1_hymn_159 : decode cX1_hymn 159 = .ok (.ireturn, 1) := by decide +kernel
theorem dX1_hymns_0 : decode cX1_hymns 0 = .ok (.aload_n 0, 1) := by decide +kernel
theorem dX1_hymns_1 : decode cX1_hymns 1 = .ok (.iconst 0, 1) := by decide +kernel
theorem dX1_hymns_2 : decode cX1_hymns 2 = .ok (.putfield 53, 3) := by decide +kernel
theorem dX1_hymns_5 : decode cX1_hymns 5 = .ok (.aload_n 0, 1) := by decide +kernel
theorem dX1_hymns_6 : decode cX1_hymns 6 = .ok (.getfield 57, 3) := by decide +kernel
theorem dX1_hymns_9 : decode cX1_hymns 9 = .ok (.ireturn, 1) := by decide +kernel
theorem dX1_hasRest_0 : decode cX1_hasRest 0 = .ok (.aload_n 0, 1) := by decide +kernel
theorem dX1_hasRest_1 : decode cX1_hasRest 1 = .ok (.getfield 19, 3) := by decide +kernel
theorem dX1_hasRest_4 : decode cX1_hasRest 4 = .ok (.iload_n 1, 1) := by decide +kernel
theorem dX1_hasRest_5 : decode cX1_hasRest 5 = .ok (.iaload, 1) := by decide +kernel
theorem dX1_hasRest_6 : decode cX1_hasRest 6 = .ok (.iload_n 2, 1) := by decide +kernel
theorem dX1_hasRest_7 : decode cX1_hasRest 7 = .ok (.ishr, 1) := by decide +kernel
theorem dX1_hasRest_8 : decode cX1_hasRest 8 = .ok (.iconst 1, 1) := by decide +kernel
theorem dX1_hasRest_9 : decode cX1_hasRest 9 = .ok (.iand, 1) := by decide +kernel
theorem dX1_hasRest_10 : decode cX1_hasRest 10 = .ok (.iconst 1, 1) := by decide +kernel
theorem dX1_hasRest_11 : decode cX1_hasRest 11 = .ok (.if_icmp .ne 7, 3) := by decide +kernel
theorem dX1_hasRest_14 : decode cX1_hasRest 14 = .ok (.iconst 1, 1) := by decide +kernel
theorem dX1_hasRest_15 : decode cX1_hasRest 15 = .ok (.goto 4, 3) := by decide +kernel
theorem dX1_hasRest_18 : decode cX1_hasRest 18 = .ok (.iconst 0, 1) := by decide +kernel
theorem dX1_hasRest_19 : decode cX1_hasRest 19 = .ok (.ireturn, 1) := by decide +kernel
set_option maxRecDepth 20000 in
theorem ggX1_nextPage_X1_hasRest : GoodIn wsX1_nextPage wsX1_hasRest := goodIn_r _ [6, 7, 8, 9, 10, 11, 12, 13, 14, 15, 16, 17, 18, 19, 20, 21, 22, 23, 24, 25, 26] (by decide +kernel) (by decide +kernel)
set_option maxRecDepth 20000 in
theorem gX1_nextPage_X1_hasRest : GoodIn wsX1_nextPage (wsV RX1 64 RX1 yX1_hasRest wsX1_hasRest) := goodIn_app (goodIn_of _ (by decide +kernel)) ggX1_nextPage_X1_hasRest
theorem dX1_nextPage_0 : decode cX1_nextPage 0 = .ok (.aload_n 0, 1) := by decide +kernel
theorem dX1_nextPage_1 : decode cX1_nextPage 1 = .ok (.getfield 16, 3) := by decide +kernel
theorem dX1_nextPage_4 : decode cX1_nextPage 4 = .ok (.iload_n 1, 1) := by decide +kernel
theorem dX1_nextPage_5 : decode cX1_nextPage 5 = .ok (.iaload, 1) := by decide +kernel
theorem dX1_nextPage_6 : decode cX1_nextPage 6 = .ok (.iload_n 2, 1) := by decide +kernel
theorem dX1_nextPage_7 : decode cX1_nextPage 7 = .ok (.isub, 1) := by decide +kernel
theorem dX1_nextPage_8 : decode cX1_nextPage 8 = .ok (.bipush 8, 2) := by decide +kernel
theorem dX1_nextPage_10 : decode cX1_nextPage 10 = .ok (.if_icmp .gt 10, 3) := by decide +kernel
theorem dX1_nextPage_13 : decode cX1_nextPage 13 = .ok (.aload_n 0, 1) := by decide +kernel
theorem dX1_nextPage_14 : decode cX1_nextPage 14 = .ok (.getfield 16, 3) := by decide +kernel
theorem dX1_nextPage_17 : decode cX1_nextPage 17 = .ok (.iload_n 1, 1) := by decide +kernel
theorem dX1_nextPage_18 : decode cX1_nextPage 18 = .ok (.iaload, 1) := by decide +kernel
theorem dX1_nextPage_19 : decode cX1_nextPage 19 = .ok (.ireturn, 1) := by decide +kernel
theorem dX1_nextPage_20 : decode cX1_nextPage 20 = .ok (.iload_n 2, 1) := by decide +kernel
theorem dX1_nextPage_21 : decode cX1_nextPage 21 = .ok (.bipush 8, 2) := by decide +kernel
theorem dX1_nextPage_23 : decode cX1_nextPage 23 = .ok (.iadd, 1) := by decide +kernel
theorem dX1_nextPage_24 : decode cX1_nextPage 24 = .ok (.istore_n 3, 1) := by decide +kernel
theorem dX1_nextPage_25 : decode cX1_nextPage 25 = .ok (.iload_n 3, 1) := by decide +kernel
theorem dX1_nextPage_26 : decode cX1_nextPage 26 = .ok (.istore 4, 2) := by decide +kernel
theorem dX1_nextPage_28 : decode cX1_nextPage 28 = .ok (.iload_n 2, 1) := by decide +kernel
theorem dX1_nextPage_29 : decode cX1_nextPage 29 = .ok (.istore 5, 2) := by decide +kernel
theorem dX1_nextPage_31 : decode cX1_nextPage 31 = .ok (.iload 5, 2) := by decide +kernel
theorem dX1_nextPage_33 : decode cX1_nextPage 33 = .ok (.iload_n 3, 1) := by decide +kernel
theorem dX1_nextPage_34 : decode cX1_nextPage 34 = .ok (.if_icmp .ge 30, 3) := by decide +kernel
theorem dX1_nextPage_37 : decode cX1_nextPage 37 = .ok (.aload_n 0, 1) := by decide +kernel
theorem dX1_nextPage_38 : decode cX1_nextPage 38 = .ok (.iload_n 1, 1) := by decide +kernel
theorem dX1_nextPage_39 : decode cX1_nextPage 39 = .ok (.iload 5, 2) := by decide +kernel
theorem dX1_nextPage_41 : decode cX1_nextPage 41 = .ok (.invokevirtual 64, 3) := by decide +kernel
theorem dX1_nextPage_44 : decode cX1_nextPage 44 = .ok (.ifCond .eq 10, 3) := by decide +kernel
theorem dX1_nextPage_47 : decode cX1_nextPage 47 = .ok (.iload 5, 2) := by decide +kernel
theorem dX1_nextPage_49 : decode cX1_nextPage 49 = .ok (.iconst 1, 1) := by decide +kernel
theorem dX1_nextPage_50 : decode cX1_nextPage 50 = .ok (.iadd, 1) := by decide +kernel
theorem dX1_nextPage_51 : decode cX1_nextPage 51 = .ok (.goto 5, 3) := by decide +kernel
theorem dX1_nextPage_54 : decode cX1_nextPage 54 = .ok (.iload 4, 2) := by decide +kernel
theorem dX1_nextPage_56 : decode cX1_nextPage 56 = .ok (.istore 4, 2) := by decide +kernel
theorem dX1_nextPage_58 : decode cX1_nextPage 58 = .ok (.iinc 5 1, 3) := by decide +kernel
theorem dX1_nextPage_61 : decode cX1_nextPage 61 = .ok (.goto (-30), 3) := by decide +kernel
theorem dX1_nextPage_64 : decode cX1_nextPage 64 = .ok (.iload 4, 2) := by decide +kernel
theorem dX1_nextPage_66 : decode cX1_nextPage 66 = .ok (.ireturn, 1) := by decide +kernel
set_option maxRecDepth 20000 in
theorem ggX1_pagesOf_X1_nextPage : GoodIn wsX1_pagesOf wsX1_nextPage := goodIn_r _ [6, 1, 7, 8, 9, 5, 10, 11, 12, 13, 14, 15, 16, 17, 18, 19, 20, 21, 22, 23, 24, 25, 26, 27, 28, 29, 30] (by decide +kernel) (by decide +kernel)
set_option maxRecDepth 20000 in
theorem gX1_pagesOf_X1_nextPage : GoodIn wsX1_pagesOf (wsV RX1 68 RX1 yX1_nextPage wsX1_nextPage) := goodIn_app (goodIn_of _ (by decide +kernel)) ggX1_pagesOf_X1_nextPage
theorem dX1_pagesOf_0 : decode cX1_pagesOf 0 = .ok (.iconst 0, 1) := by decide +kernel
theorem dX1_pagesOf_1 : decode cX1_pagesOf 1 = .ok (.istore_n 2, 1) := by decide +kernel
theorem dX1_pagesOf_2 : decode cX1_pagesOf 2 = .ok (.iconst 0, 1) := by decide +kernel
theorem dX1_pagesOf_3 : decode cX1_pagesOf 3 = .ok (.istore_n 3, 1) := by decide +kernel
theorem dX1_pagesOf_4 : decode cX1_pagesOf 4 = .ok (.iload_n 3, 1) := by decide +kernel
theorem dX1_pagesOf_5 : decode cX1_pagesOf 5 = .ok (.aload_n 0, 1) := by decide +kernel
theorem dX1_pagesOf_6 : decode cX1_pagesOf 6 = .ok (.getfield 16, 3) := by decide +kernel
theorem dX1_pagesOf_9 : decode cX1_pagesOf 9 = .ok (.iload_n 1, 1) := by decide +kernel
theorem dX1_pagesOf_10 : decode cX1_pagesOf 10 = .ok (.iaload, 1) := by decide +kernel
theorem dX1_pagesOf_11 : decode cX1_pagesOf 11 = .ok (.if_icmp .ge 16, 3) := by decide +kernel
theorem dX1_pagesOf_14 : decode cX1_pagesOf 14 = .ok (.iinc 2 1, 3) := by decide +kernel
theorem dX1_pagesOf_17 : decode cX1_pagesOf 17 = .ok (.aload_n 0, 1) := by decide +kernel
theorem dX1_pagesOf_18 : decode cX1_pagesOf 18 = .ok (.iload_n 1, 1) := by decide +kernel
theorem dX1_pagesOf_19 : decode cX1_pagesOf 19 = .ok (.iload_n 3, 1) := by decide +kernel
theorem dX1_pagesOf_20 : decode cX1_pagesOf 20 = .ok (.invokevirtual 68, 3) := by decide +kernel
theorem dX1_pagesOf_23 : decode cX1_pagesOf 23 = .ok (.istore_n 3, 1) := by decide +kernel
theorem dX1_pagesOf_24 : decode cX1_pagesOf 24 = .ok (.goto (-20), 3) := by decide +kernel
theorem dX1_pagesOf_27 : decode cX1_pagesOf 27 = .ok (.iload_n 2, 1) := by decide +kernel
theorem dX1_pagesOf_28 : decode cX1_pagesOf 28 = .ok (.ireturn, 1) := by decide +kernel
set_option maxRecDepth 20000 in
theorem ggX1_pages_X1_isHymn : GoodIn wsX1_pages wsX1_isHymn := goodIn_r _ [6, 7, 8, 9, 5, 10, 25, 26, 27, 28, 29, 30, 31, 32, 33, 34, 35, 36, 37, 38, 39, 40, 41, 42, 43] (by decide +kernel) (by decide +kernel)
set_option maxRecDepth 20000 in
theorem gX1_pages_X1_isHymn : GoodIn wsX1_pages (wsV RX1 72 RX1 yX1_isHymn wsX1_isHymn) := goodIn_app (goodIn_of _ (by decide +kernel)) ggX1_pages_X1_isHymn
set_option maxRecDepth 20000 in
theorem ggX1_pages_X1_pagesOf : GoodIn wsX1_pages wsX1_pagesOf := goodIn_r _ [14, 15, 16, 17, 18, 5, 19, 20, 21, 22, 23, 24, 25, 26, 27, 28, 29, 30, 31, 32, 33, 34, 35, 36, 37, 38, 39, 40, 41, 42, 43] (by decide +kernel) (by decide +kernel)
set_option maxRecDepth 20000 in
theorem gX1_pages_X1_pagesOf : GoodIn wsX1_pages (wsV RX1 76 RX1 yX1_pagesOf wsX1_pagesOf) := goodIn_app (goodIn_of _ (by decide +kernel)) ggX1_pages_X1_pagesOf
theorem dX1_pages_0 : decode cX1_pages 0 = .ok (.aload_n 0, 1) := by decide +kernel
theorem dX1_pages_1 : decode cX1_pages 1 = .ok (.aload_n 0, 1) := by decide +kernel
theorem dX1_pages_2 : decode cX1_pages 2 = .ok (.iload_n 1, 1) := by decide +kernel
theorem dX1_pages_3 : decode cX1_pages 3 = .ok (.invokevirtual 72, 3) := by decide +kernel
theorem dX1_pages_6 : decode cX1_pages 6 = .ok (.ifCond .eq 7, 3) := by decide +kernel
theorem dX1_pages_9 : decode cX1_pages 9 = .ok (.iconst 0, 1) := by decide +kernel
theorem dX1_pages_10 : decode cX1_pages 10 = .ok (.goto 4, 3) := by decide +kernel
theorem dX1_pages_13 : decode cX1_pages 13 = .ok (.iconst 1, 1) := by decide +kernel
theorem dX1_pages_14 : decode cX1_pages 14 = .ok (.putfield 53, 3) := by decide +kernel
theorem dX1_pages_17 : decode cX1_pages 17 = .ok (.aload_n 0, 1) := by decide +kernel
theorem dX1_pages_18 : decode cX1_pages 18 = .ok (.getfield 53, 3) := by decide +kernel
theorem dX1_pages_21 : decode cX1_pages 21 = .ok (.ifCond .le 7, 3) := by decide +kernel
theorem dX1_pages_24 : decode cX1_pages 24 = .ok (.iconst 0, 1) := by decide +kernel
theorem dX1_pages_25 : decode cX1_pages 25 = .ok (.goto 8, 3) := by decide +kernel
theorem dX1_pages_28 : decode cX1_pages 28 = .ok (.aload_n 0, 1) := by decide +kernel
theorem dX1_pages_29 : decode cX1_pages 29 = .ok (.iload_n 1, 1) := by decide +kernel
theorem dX1_pages_30 : decode cX1_pages 30 = .ok (.invokevirtual 76, 3) := by decide +kernel
theorem dX1_pages_33 : decode cX1_pages 33 = .ok (.ireturn, 1) := by decide +kernel
set_option maxRecDepth 20000 in
theorem ggX1_pageOf_X1_isHymn : GoodIn wsX1_pageOf wsX1_isHymn := goodIn_r _ [7, 8, 9, 10, 6, 11, 21, 22, 23, 24, 25, 26, 27, 28, 29, 30, 31, 32, 33, 34, 35, 36, 37, 38, 39] (by decide +kernel) (by decide +kernel)
set_option maxRecDepth 20000 in
theorem gX1_pageOf_X1_isHymn : GoodIn wsX1_pageOf (wsV RX1 72 RX1 yX1_isHymn wsX1_isHymn) := goodIn_app (goodIn_of _ (by decide +kernel)) ggX1_pageOf_X1_isHymn
set_option maxRecDepth 20000 in
theorem ggX1_pageOf_X1_isIn : GoodIn wsX1_pageOf wsX1_isIn := goodIn_r _ [11] (by decide +kernel) (by decide +kernel)
set_option maxRecDepth 20000 in
theorem gX1_pageOf_X1_isIn : GoodIn wsX1_pageOf (va_wsS RX1 60 yX1_isIn wsX1_isIn) := goodIn_app (goodIn_of _ (by decide +kernel)) ggX1_pageOf_X1_isIn
set_option maxRecDepth 20000 in
theorem ggX1_pageOf_X1_nextPage : GoodIn wsX1_pageOf wsX1_nextPage := goodIn_r _ [15, 1, 16, 17, 18, 6, 19, 20, 21, 22, 23, 24, 25, 26, 27, 28, 29, 30, 31, 32, 33, 34, 35, 36, 37, 38, 39] (by decide +kernel) (by decide +kernel)
set_option maxRecDepth 20000 in
theorem gX1_pageOf_X1_nextPage : GoodIn wsX1_pageOf (wsV RX1 68 RX1 yX1_nextPage wsX1_nextPage) := goodIn_app (goodIn_of _ (by decide +kernel)) ggX1_pageOf_X1_nextPage
theorem dX1_pageOf_0 : decode cX1_pageOf 0 = .ok (.aload_n 0, 1) := by decide +kernel
theorem dX1_pageOf_1 : decode cX1_pageOf 1 = .ok (.aload_n 0, 1) := by decide +kernel
theorem dX1_pageOf_2 : decode cX1_pageOf 2 = .ok (.iload_n 1, 1) := by decide +kernel
theorem dX1_pageOf_3 : decode cX1_pageOf 3 = .ok (.invokevirtual 72, 3) := by decide +kernel
theorem dX1_pageOf_6 : decode cX1_pageOf 6 = .ok (.ifCond .eq 35, 3) := by decide +kernel
theorem dX1_pageOf_9 : decode cX1_pageOf 9 = .ok (.iload_n 2, 1) := by decide +kernel
theorem dX1_pageOf_10 : decode cX1_pageOf 10 = .ok (.iconst 0, 1) := by decide +kernel
theorem dX1_pageOf_11 : decode cX1_pageOf 11 = .ok (.aload_n 0, 1) := by decide +kernel
theorem dX1_pageOf_12 : decode cX1_pageOf 12 = .ok (.getfield 16, 3) := by decide +kernel
theorem dX1_pageOf_15 : decode cX1_pageOf 15 = .ok (.aload_n 0, 1) := by decide +kernel
theorem dX1_pageOf_16 : decode cX1_pageOf 16 = .ok (.iload_n 1, 1) := by decide +kernel
theorem dX1_pageOf_17 : decode cX1_pageOf 17 = .ok (.invokevirtual 72, 3) := by decide +kernel
theorem dX1_pageOf_20 : decode cX1_pageOf 20 = .ok (.ifCond .eq 7, 3) := by decide +kernel
theorem dX1_pageOf_23 : decode cX1_pageOf 23 = .ok (.iload_n 1, 1) := by decide +kernel
theorem dX1_pageOf_24 : decode cX1_pageOf 24 = .ok (.goto 4, 3) := by decide +kernel
theorem dX1_pageOf_27 : decode cX1_pageOf 27 = .ok (.iconst 0, 1) := by decide +kernel
theorem dX1_pageOf_28 : decode cX1_pageOf 28 = .ok (.iaload, 1) := by decide +kernel
theorem dX1_pageOf_29 : decode cX1_pageOf 29 = .ok (.iconst 1, 1) := by decide +kernel
theorem dX1_pageOf_30 : decode cX1_pageOf 30 = .ok (.isub, 1) := by decide +kernel
theorem dX1_pageOf_31 : decode cX1_pageOf 31 = .ok (.invokestatic 60, 3) := by decide +kernel
theorem dX1_pageOf_34 : decode cX1_pageOf 34 = .ok (.ifCond .eq 7, 3) := by decide +kernel
theorem dX1_pageOf_37 : decode cX1_pageOf 37 = .ok (.iconst 0, 1) := by decide +kernel
theorem dX1_pageOf_38 : decode cX1_pageOf 38 = .ok (.goto 4, 3) := by decide +kernel
theorem dX1_pageOf_41 : decode cX1_pageOf 41 = .ok (.iconst 1, 1) := by decide +kernel
theorem dX1_pageOf_42 : decode cX1_pageOf 42 = .ok (.putfield 53, 3) := by decide +kernel
theorem dX1_pageOf_45 : decode cX1_pageOf 45 = .ok (.iconst (-1), 1) := by decide +kernel
theorem dX1_pageOf_46 : decode cX1_pageOf 46 = .ok (.istore_n 3, 1) := by decide +kernel
theorem dX1_pageOf_47 : decode cX1_pageOf 47 = .ok (.iconst 0, 1) := by decide +kernel
theorem dX1_pageOf_48 : decode cX1_pageOf 48 = .ok (.istore 4, 2) := by decide +kernel
theorem dX1_pageOf_50 : decode cX1_pageOf 50 = .ok (.aload_n 0, 1) := by decide +kernel
theorem dX1_pageOf_51 : decode cX1_pageOf 51 = .ok (.getfield 53, 3) := by decide +kernel
theorem dX1_pageOf_54 : decode cX1_pageOf 54 = .ok (.ifCond .ne 24, 3) := by decide +kernel
theorem dX1_pageOf_57 : decode cX1_pageOf 57 = .ok (.iload 4, 2) := by decide +kernel
theorem dX1_pageOf_59 : decode cX1_pageOf 59 = .ok (.iload_n 2, 1) := by decide +kernel
theorem dX1_pageOf_60 : decode cX1_pageOf 60 = .ok (.if_icmp .gt 18, 3) := by decide +kernel
theorem dX1_pageOf_63 : decode cX1_pageOf 63 = .ok (.iinc 3 1, 3) := by decide +kernel
theorem dX1_pageOf_66 : decode cX1_pageOf 66 = .ok (.aload_n 0, 1) := by decide +kernel
theorem dX1_pageOf_67 : decode cX1_pageOf 67 = .ok (.iload_n 1, 1) := by decide +kernel
theorem dX1_pageOf_68 : decode cX1_pageOf 68 = .ok (.iload 4, 2) := by decide +kernel
theorem dX1_pageOf_70 : decode cX1_pageOf 70 = .ok (.invokevirtual 68, 3) := by decide +kernel
theorem dX1_pageOf_73 : decode cX1_pageOf 73 = .ok (.istore 4, 2) := by decide +kernel
theorem dX1_pageOf_75 : decode cX1_pageOf 75 = .ok (.goto (-25), 3) := by decide +kernel
theorem dX1_pageOf_78 : decode cX1_pageOf 78 = .ok (.iload_n 3, 1) := by decide +kernel
theorem dX1_pageOf_79 : decode cX1_pageOf 79 = .ok (.ireturn, 1) := by decide +kernel
set_option maxRecDepth 20000 in
theorem ggX1_badTurns_X1_isHymn : GoodIn wsX1_badTurns wsX1_isHymn := goodIn_r _ [7, 8, 9, 10, 6, 11, 21, 22, 23, 24, 25, 26, 27, 28, 29, 30, 31, 32, 33, 34, 35, 36, 37, 38, 39] (by decide +kernel) (by decide +kernel)
set_option maxRecDepth 20000 in
theorem gX1_badTurns_X1_isHymn : GoodIn wsX1_badTurns (wsV RX1 72 RX1 yX1_isHymn wsX1_isHymn) := goodIn_app (goodIn_of _ (by decide +kernel)) ggX1_badTurns_X1_isHymn
set_option maxRecDepth 20000 in
theorem ggX1_badTurns_X1_nextPage : GoodIn wsX1_badTurns wsX1_nextPage := goodIn_r _ [15, 2, 16, 17, 18, 6, 19, 20, 21, 22, 23, 24, 25, 26, 27, 28, 29, 30, 31, 32, 33, 34, 35, 36, 37, 38, 39] (by decide +kernel) (by decide +kernel)
set_option maxRecDepth 20000 in
theorem gX1_badTurns_X1_nextPage : GoodIn wsX1_badTurns (wsV RX1 68 RX1 yX1_nextPage wsX1_nextPage) := goodIn_app (goodIn_of _ (by decide +kernel)) ggX1_badTurns_X1_nextPage
set_option maxRecDepth 20000 in
theorem ggX1_badTurns_X1_hasRest : GoodIn wsX1_badTurns wsX1_hasRest := goodIn_r _ [19, 20, 21, 22, 23, 24, 25, 26, 27, 28, 29, 30, 31, 32, 33, 34, 35, 36, 37, 38, 39] (by decide +kernel) (by decide +kernel)
set_option maxRecDepth 20000 in
theorem gX1_badTurns_X1_hasRest : GoodIn wsX1_badTurns (wsV RX1 64 RX1 yX1_hasRest wsX1_hasRest) := goodIn_app (goodIn_of _ (by decide +kernel)) ggX1_badTurns_X1_hasRest
theorem dX1_badTurns_0 : decode cX1_badTurns 0 = .ok (.aload_n 0, 1) := by decide +kernel
theorem dX1_badTurns_1 : decode cX1_badTurns 1 = .ok (.aload_n 0, 1) := by decide +kernel
theorem dX1_badTurns_2 : decode cX1_badTurns 2 = .ok (.iload_n 1, 1) := by decide +kernel
theorem dX1_badTurns_3 : decode cX1_badTurns 3 = .ok (.invokevirtual 72, 3) := by decide +kernel
theorem dX1_badTurns_6 : decode cX1_badTurns 6 = .ok (.ifCond .eq 7, 3) := by decide +kernel
theorem dX1_badTurns_9 : decode cX1_badTurns 9 = .ok (.iconst 0, 1) := by decide +kernel
theorem dX1_badTurns_10 : decode cX1_badTurns 10 = .ok (.goto 4, 3) := by decide +kernel
theorem dX1_badTurns_13 : decode cX1_badTurns 13 = .ok (.iconst 1, 1) := by decide +kernel
theorem dX1_badTurns_14 : decode cX1_badTurns 14 = .ok (.putfield 53, 3) := by decide +kernel
theorem dX1_badTurns_17 : decode cX1_badTurns 17 = .ok (.iconst 0, 1) := by decide +kernel
theorem dX1_badTurns_18 : decode cX1_badTurns 18 = .ok (.istore_n 2, 1) := by decide +kernel
theorem dX1_badTurns_19 : decode cX1_badTurns 19 = .ok (.iconst 0, 1) := by decide +kernel
theorem dX1_badTurns_20 : decode cX1_badTurns 20 = .ok (.istore_n 3, 1) := by decide +kernel
theorem dX1_badTurns_21 : decode cX1_badTurns 21 = .ok (.aload_n 0, 1) := by decide +kernel
theorem dX1_badTurns_22 : decode cX1_badTurns 22 = .ok (.getfield 53, 3) := by decide +kernel
theorem dX1_badTurns_25 : decode cX1_badTurns 25 = .ok (.ifCond .ne 62, 3) := by decide +kernel
theorem dX1_badTurns_28 : decode cX1_badTurns 28 = .ok (.iload_n 3, 1) := by decide +kernel
theorem dX1_badTurns_29 : decode cX1_badTurns 29 = .ok (.aload_n 0, 1) := by decide +kernel
theorem dX1_badTurns_30 : decode cX1_badTurns 30 = .ok (.getfield 16, 3) := by decide +kernel
theorem dX1_badTurns_33 : decode cX1_badTurns 33 = .ok (.iload_n 1, 1) := by decide +kernel
theorem dX1_badTurns_34 : decode cX1_badTurns 34 = .ok (.iaload, 1) := by decide +kernel
theorem dX1_badTurns_35 : decode cX1_badTurns 35 = .ok (.if_icmp .ge 52, 3) := by decide +kernel
theorem dX1_badTurns_38 : decode cX1_badTurns 38 = .ok (.aload_n 0, 1) := by decide +kernel
theorem dX1_badTurns_39 : decode cX1_badTurns 39 = .ok (.iload_n 1, 1) := by decide +kernel
theorem dX1_badTurns_40 : decode cX1_badTurns 40 = .ok (.iload_n 3, 1) := by decide +kernel
theorem dX1_badTurns_41 : decode cX1_badTurns 41 = .ok (.invokevirtual 68, 3) := by decide +kernel
theorem dX1_badTurns_44 : decode cX1_badTurns 44 = .ok (.istore 4, 2) := by decide +kernel
theorem dX1_badTurns_46 : decode cX1_badTurns 46 = .ok (.iload_n 2, 1) := by decide +kernel
theorem dX1_badTurns_47 : decode cX1_badTurns 47 = .ok (.iload 4, 2) := by decide +kernel
theorem dX1_badTurns_49 : decode cX1_badTurns 49 = .ok (.aload_n 0, 1) := by decide +kernel
theorem dX1_badTurns_50 : decode cX1_badTurns 50 = .ok (.getfield 16, 3) := by decide +kernel
theorem dX1_badTurns_53 : decode cX1_badTurns 53 = .ok (.iload_n 1, 1) := by decide +kernel
theorem dX1_badTurns_54 : decode cX1_badTurns 54 = .ok (.iaload, 1) := by decide +kernel
theorem dX1_badTurns_55 : decode cX1_badTurns 55 = .ok (.if_icmp .ge 19, 3) := by decide +kernel
theorem dX1_badTurns_58 : decode cX1_badTurns 58 = .ok (.aload_n 0, 1) := by decide +kernel
theorem dX1_badTurns_59 : decode cX1_badTurns 59 = .ok (.iload_n 1, 1) := by decide +kernel
theorem dX1_badTurns_60 : decode cX1_badTurns 60 = .ok (.iload 4, 2) := by decide +kernel
theorem dX1_badTurns_62 : decode cX1_badTurns 62 = .ok (.iconst 1, 1) := by decide +kernel
theorem dX1_badTurns_63 : decode cX1_badTurns 63 = .ok (.isub, 1) := by decide +kernel
theorem dX1_badTurns_64 : decode cX1_badTurns 64 = .ok (.invokevirtual 64, 3) := by decide +kernel
theorem dX1_badTurns_67 : decode cX1_badTurns 67 = .ok (.ifCond .ne 7, 3) := by decide +kernel
theorem dX1_badTurns_70 : decode cX1_badTurns 70 = .ok (.iconst 1, 1) := by decide +kernel
theorem dX1_badTurns_71 : decode cX1_badTurns 71 = .ok (.goto 4, 3) := by decide +kernel
theorem dX1_badTurns_74 : decode cX1_badTurns 74 = .ok (.iconst 0, 1) := by decide +kernel
theorem dX1_badTurns_75 : decode cX1_badTurns 75 = .ok (.iadd, 1) := by decide +kernel
theorem dX1_badTurns_76 : decode cX1_badTurns 76 = .ok (.istore_n 2, 1) := by decide +kernel
theorem dX1_badTurns_77 : decode cX1_badTurns 77 = .ok (.aload_n 0, 1) := by decide +kernel
theorem dX1_badTurns_78 : decode cX1_badTurns 78 = .ok (.iload_n 1, 1) := by decide +kernel
theorem dX1_badTurns_79 : decode cX1_badTurns 79 = .ok (.iload_n 3, 1) := by decide +kernel
theorem dX1_badTurns_80 : decode cX1_badTurns 80 = .ok (.invokevirtual 68, 3) := by decide +kernel
theorem dX1_badTurns_83 : decode cX1_badTurns 83 = .ok (.istore_n 3, 1) := by decide +kernel
theorem dX1_badTurns_84 : decode cX1_badTurns 84 = .ok (.goto (-63), 3) := by decide +kernel
theorem dX1_badTurns_87 : decode cX1_badTurns 87 = .ok (.iload_n 2, 1) := by decide +kernel
theorem dX1_badTurns_88 : decode cX1_badTurns 88 = .ok (.ireturn, 1) := by decide +kernel
set_option maxRecDepth 20000 in
theorem ggX1_right_X1_isHymn : GoodIn wsX1_right wsX1_isHymn := goodIn_r _ [11, 12, 13, 14, 10, 15, 22, 23, 24, 25, 26, 27, 28, 29, 30, 31, 32, 33, 34, 35, 36, 37, 38, 39, 40] (by decide +kernel) (by decide +kernel)
set_option maxRecDepth 20000 in
theorem gX1_right_X1_isHymn : GoodIn wsX1_right (wsV RX1 72 RX1 yX1_isHymn wsX1_isHymn) := goodIn_app (goodIn_of _ (by decide +kernel)) ggX1_right_X1_isHymn
set_option maxRecDepth 20000 in
theorem ggX1_right_X1_isUse : GoodIn wsX1_right wsX1_isUse := goodIn_r _ [18, 13, 14, 10, 15] (by decide +kernel) (by decide +kernel)
set_option maxRecDepth 20000 in
theorem gX1_right_X1_isUse : GoodIn wsX1_right (va_wsS RX1 80 yX1_isUse wsX1_isUse) := goodIn_app (goodIn_of _ (by decide +kernel)) ggX1_right_X1_isUse
set_option maxRecDepth 20000 in
theorem ggX1_right_X1_isDay : GoodIn wsX1_right wsX1_isDay := goodIn_r _ [21, 13, 14, 10, 15] (by decide +kernel) (by decide +kernel)
set_option maxRecDepth 20000 in
theorem gX1_right_X1_isDay : GoodIn wsX1_right (va_wsS RX1 83 yX1_isDay wsX1_isDay) := goodIn_app (goodIn_of _ (by decide +kernel)) ggX1_right_X1_isDay
set_option maxRecDepth 20000 in
theorem ggX1_right_X1_isIn : GoodIn wsX1_right wsX1_isIn := goodIn_r _ [15] (by decide +kernel) (by decide +kernel)
set_option maxRecDepth 20000 in
theorem gX1_right_X1_isIn : GoodIn wsX1_right (va_wsS RX1 60 yX1_isIn wsX1_isIn) := goodIn_app (goodIn_of _ (by decide +kernel)) ggX1_right_X1_isIn
theorem dX1_right_0 : decode cX1_right 0 = .ok (.aload_n 0, 1) := by decide +kernel
theorem dX1_right_1 : decode cX1_right 1 = .ok (.aload_n 0, 1) := by decide +kernel
theorem dX1_right_2 : decode cX1_right 2 = .ok (.iload_n 1, 1) := by decide +kernel
theorem dX1_right_3 : decode cX1_right 3 = .ok (.invokevirtual 72, 3) := by decide +kernel
theorem dX1_right_6 : decode cX1_right 6 = .ok (.ifCond .eq 10, 3) := by decide +kernel
theorem dX1_right_9 : decode cX1_right 9 = .ok (.iload_n 2, 1) := by decide +kernel
theorem dX1_right_10 : decode cX1_right 10 = .ok (.invokestatic 80, 3) := by decide +kernel
theorem dX1_right_13 : decode cX1_right 13 = .ok (.ifCond .ne 7, 3) := by decide +kernel
theorem dX1_right_16 : decode cX1_right 16 = .ok (.iconst 1, 1) := by decide +kernel
theorem dX1_right_17 : decode cX1_right 17 = .ok (.goto 40, 3) := by decide +kernel
theorem dX1_right_20 : decode cX1_right 20 = .ok (.iload_n 3, 1) := by decide +kernel
theorem dX1_right_21 : decode cX1_right 21 = .ok (.invokestatic 83, 3) := by decide +kernel
theorem dX1_right_24 : decode cX1_right 24 = .ok (.ifCond .eq 15, 3) := by decide +kernel
theorem dX1_right_27 : decode cX1_right 27 = .ok (.iload 4, 2) := by decide +kernel
theorem dX1_right_29 : decode cX1_right 29 = .ok (.iload_n 3, 1) := by decide +kernel
theorem dX1_right_30 : decode cX1_right 30 = .ok (.sipush 1459, 3) := by decide +kernel
theorem dX1_right_33 : decode cX1_right 33 = .ok (.invokestatic 60, 3) := by decide +kernel
theorem dX1_right_36 : decode cX1_right 36 = .ok (.ifCond .ne 7, 3) := by decide +kernel
theorem dX1_right_39 : decode cX1_right 39 = .ok (.iconst 2, 1) := by decide +kernel
theorem dX1_right_40 : decode cX1_right 40 = .ok (.goto 17, 3) := by decide +kernel
theorem dX1_right_43 : decode cX1_right 43 = .ok (.aload_n 0, 1) := by decide +kernel
theorem dX1_right_44 : decode cX1_right 44 = .ok (.getfield 86, 3) := by decide +kernel
theorem dX1_right_47 : decode cX1_right 47 = .ok (.bipush 40, 2) := by decide +kernel
theorem dX1_right_49 : decode cX1_right 49 = .ok (.if_icmp .ne 7, 3) := by decide +kernel
theorem dX1_right_52 : decode cX1_right 52 = .ok (.iconst 3, 1) := by decide +kernel
theorem dX1_right_53 : decode cX1_right 53 = .ok (.goto 4, 3) := by decide +kernel
theorem dX1_right_56 : decode cX1_right 56 = .ok (.iconst 0, 1) := by decide +kernel
theorem dX1_right_57 : decode cX1_right 57 = .ok (.putfield 53, 3) := by decide +kernel
theorem dX1_right_60 : decode cX1_right 60 = .ok (.aload_n 0, 1) := by decide +kernel
theorem dX1_right_61 : decode cX1_right 61 = .ok (.getfield 53, 3) := by decide +kernel
theorem dX1_right_64 : decode cX1_right 64 = .ok (.ifCond .le 5, 3) := by decide +kernel
theorem dX1_right_67 : decode cX1_right 67 = .ok (.iconst 0, 1) := by decide +kernel
theorem dX1_right_68 : decode cX1_right 68 = .ok (.ireturn, 1) := by decide +kernel
theorem dX1_right_69 : decode cX1_right 69 = .ok (.aload_n 0, 1) := by decide +kernel
theorem dX1_right_70 : decode cX1_right 70 = .ok (.getfield 25, 3) := by decide +kernel
theorem dX1_right_73 : decode cX1_right 73 = .ok (.aload_n 0, 1) := by decide +kernel
theorem dX1_right_74 : decode cX1_right 74 = .ok (.getfield 86, 3) := by decide +kernel
theorem dX1_right_77 : decode cX1_right 77 = .ok (.iload_n 1, 1) := by decide +kernel
theorem dX1_right_78 : decode cX1_right 78 = .ok (.iastore, 1) := by decide +kernel
theorem dX1_right_79 : decode cX1_right 79 = .ok (.aload_n 0, 1) := by decide +kernel
theorem dX1_right_80 : decode cX1_right 80 = .ok (.getfield 28, 3) := by decide +kernel
theorem dX1_right_83 : decode cX1_right 83 = .ok (.aload_n 0, 1) := by decide +kernel
theorem dX1_right_84 : decode cX1_right 84 = .ok (.getfield 86, 3) := by decide +kernel
theorem dX1_right_87 : decode cX1_right 87 = .ok (.iload_n 2, 1) := by decide +kernel
theorem dX1_right_88 : decode cX1_right 88 = .ok (.iastore, 1) := by decide +kernel
theorem dX1_right_89 : decode cX1_right 89 = .ok (.aload_n 0, 1) := by decide +kernel
theorem dX1_right_90 : decode cX1_right 90 = .ok (.getfield 31, 3) := by decide +kernel
theorem dX1_right_93 : decode cX1_right 93 = .ok (.aload_n 0, 1) := by decide +kernel
theorem dX1_right_94 : decode cX1_right 94 = .ok (.getfield 86, 3) := by decide +kernel
theorem dX1_right_97 : decode cX1_right 97 = .ok (.iload_n 3, 1) := by decide +kernel
theorem dX1_right_98 : decode cX1_right 98 = .ok (.iastore, 1) := by decide +kernel
theorem dX1_right_99 : decode cX1_right 99 = .ok (.aload_n 0, 1) := by decide +kernel
theorem dX1_right_100 : decode cX1_right 100 = .ok (.getfield 34, 3) := by decide +kernel
theorem dX1_right_103 : decode cX1_right 103 = .ok (.aload_n 0, 1) := by decide +kernel
theorem dX1_right_104 : decode cX1_right 104 = .ok (.getfield 86, 3) := by decide +kernel
theorem dX1_right_107 : decode cX1_right 107 = .ok (.iload 4, 2) := by decide +kernel
theorem dX1_right_109 : decode cX1_right 109 = .ok (.iastore, 1) := by decide +kernel
theorem dX1_right_110 : decode cX1_right 110 = .ok (.aload_n 0, 1) := by decide +kernel
theorem dX1_right_111 : decode cX1_right 111 = .ok (.dup, 1) := by decide +kernel
theorem dX1_right_112 : decode cX1_right 112 = .ok (.getfield 86, 3) := by decide +kernel
theorem dX1_right_115 : decode cX1_right 115 = .ok (.iconst 1, 1) := by decide +kernel
theorem dX1_right_116 : decode cX1_right 116 = .ok (.iadd, 1) := by decide +kernel
theorem dX1_right_117 : decode cX1_right 117 = .ok (.putfield 86, 3) := by decide +kernel
theorem dX1_right_120 : decode cX1_right 120 = .ok (.aload_n 0, 1) := by decide +kernel
theorem dX1_right_121 : decode cX1_right 121 = .ok (.getfield 86, 3) := by decide +kernel
theorem dX1_right_124 : decode cX1_right 124 = .ok (.iconst 1, 1) := by decide +kernel
theorem dX1_right_125 : decode cX1_right 125 = .ok (.isub, 1) := by decide +kernel
theorem dX1_right_126 : decode cX1_right 126 = .ok (.ireturn, 1) := by decide +kernel
set_option maxRecDepth 20000 in
theorem ggX1_may_X1_isIn : GoodIn wsX1_may wsX1_isIn := goodIn_r _ [9] (by decide +kernel) (by decide +kernel)
set_option maxRecDepth 20000 in
theorem gX1_may_X1_isIn : GoodIn wsX1_may (va_wsS RX1 60 yX1_isIn wsX1_isIn) := goodIn_app (goodIn_of _ (by decide +kernel)) ggX1_may_X1_isIn
theorem dX1_may_0 : decode cX1_may 0 = .ok (.iconst 0, 1) := by decide +kernel
theorem dX1_may_1 : decode cX1_may 1 = .ok (.istore 4, 2) := by decide +kernel
theorem dX1_may_3 : decode cX1_may 3 = .ok (.iconst 0, 1) := by decide +kernel
theorem dX1_may_4 : decode cX1_may 4 = .ok (.istore 5, 2) := by decide +kernel
theorem dX1_may_6 : decode cX1_may 6 = .ok (.iload 5, 2) := by decide +kernel
theorem dX1_may_8 : decode cX1_may 8 = .ok (.aload_n 0, 1) := by decide +kernel
theorem dX1_may_9 : decode cX1_may 9 = .ok (.getfield 86, 3) := by decide +kernel
theorem dX1_may_12 : decode cX1_may 12 = .ok (.if_icmp .ge 64, 3) := by decide +kernel
theorem dX1_may_15 : decode cX1_may 15 = .ok (.iload 4, 2) := by decide +kernel
theorem dX1_may_17 : decode cX1_may 17 = .ok (.ifCond .ne 46, 3) := by decide +kernel
theorem dX1_may_20 : decode cX1_may 20 = .ok (.aload_n 0, 1) := by decide +kernel
theorem dX1_may_21 : decode cX1_may 21 = .ok (.getfield 25, 3) := by decide +kernel
theorem dX1_may_24 : decode cX1_may 24 = .ok (.iload 5, 2) := by decide +kernel
theorem dX1_may_26 : decode cX1_may 26 = .ok (.iaload, 1) := by decide +kernel
theorem dX1_may_27 : decode cX1_may 27 = .ok (.iload_n 1, 1) := by decide +kernel
theorem dX1_may_28 : decode cX1_may 28 = .ok (.if_icmp .ne 39, 3) := by decide +kernel
theorem dX1_may_31 : decode cX1_may 31 = .ok (.aload_n 0, 1) := by decide +kernel
theorem dX1_may_32 : decode cX1_may 32 = .ok (.getfield 28, 3) := by decide +kernel
theorem dX1_may_35 : decode cX1_may 35 = .ok (.iload 5, 2) := by decide +kernel
theorem dX1_may_37 : decode cX1_may 37 = .ok (.iaload, 1) := by decide +kernel
theorem dX1_may_38 : decode cX1_may 38 = .ok (.iload_n 2, 1) := by decide +kernel
theorem dX1_may_39 : decode cX1_may 39 = .ok (.if_icmp .ne 28, 3) := by decide +kernel
theorem dX1_may_42 : decode cX1_may 42 = .ok (.iload_n 3, 1) := by decide +kernel
theorem dX1_may_43 : decode cX1_may 43 = .ok (.aload_n 0, 1) := by decide +kernel
theorem dX1_may_44 : decode cX1_may 44 = .ok (.getfield 31, 3) := by decide +kernel
theorem dX1_may_47 : decode cX1_may 47 = .ok (.iload 5, 2) := by decide +kernel
theorem dX1_may_49 : decode cX1_may 49 = .ok (.iaload, 1) := by decide +kernel
theorem dX1_may_50 : decode cX1_may 50 = .ok (.aload_n 0, 1) := by decide +kernel
theorem dX1_may_51 : decode cX1_may 51 = .ok (.getfield 34, 3) := by decide +kernel
theorem dX1_may_54 : decode cX1_may 54 = .ok (.iload 5, 2) := by decide +kernel
theorem dX1_may_56 : decode cX1_may 56 = .ok (.iaload, 1) := by decide +kernel
theorem dX1_may_57 : decode cX1_may 57 = .ok (.invokestatic 60, 3) := by decide +kernel
theorem dX1_may_60 : decode cX1_may 60 = .ok (.ifCond .eq 7, 3) := by decide +kernel
theorem dX1_may_63 : decode cX1_may 63 = .ok (.iconst 1, 1) := by decide +kernel
theorem dX1_may_64 : decode cX1_may 64 = .ok (.goto 4, 3) := by decide +kernel
theorem dX1_may_67 : decode cX1_may 67 = .ok (.iconst 0, 1) := by decide +kernel
theorem dX1_may_68 : decode cX1_may 68 = .ok (.istore 4, 2) := by decide +kernel
theorem dX1_may_70 : decode cX1_may 70 = .ok (.iinc 5 1, 3) := by decide +kernel
theorem dX1_may_73 : decode cX1_may 73 = .ok (.goto (-67), 3) := by decide +kernel
theorem dX1_may_76 : decode cX1_may 76 = .ok (.iload 4, 2) := by decide +kernel
theorem dX1_may_78 : decode cX1_may 78 = .ok (.ireturn, 1) := by decide +kernel
set_option maxRecDepth 20000 in
theorem ggX1_end_X1_isIn : GoodIn wsX1_end wsX1_isIn := goodIn_r _ [12] (by decide +kernel) (by decide +kernel)
set_option maxRecDepth 20000 in
theorem gX1_end_X1_isIn : GoodIn wsX1_end (va_wsS RX1 60 yX1_isIn wsX1_isIn) := goodIn_app (goodIn_of _ (by decide +kernel)) ggX1_end_X1_isIn
set_option maxRecDepth 20000 in
theorem ggX1_end_X1_may : GoodIn wsX1_end wsX1_may := goodIn_r _ [16, 1, 17, 18, 19, 4, 9, 10, 11, 12, 36, 37, 38, 39, 40, 41, 42, 43, 44, 45, 46, 47, 48, 49, 50, 51, 52, 53, 54] (by decide +kernel) (by decide +kernel)
set_option maxRecDepth 20000 in
theorem gX1_end_X1_may : GoodIn wsX1_end (wsV RX1 95 RX1 yX1_may wsX1_may) := goodIn_app (goodIn_of _ (by decide +kernel)) ggX1_end_X1_may
set_option maxRecDepth 20000 in
theorem ggX1_end_X1_plans : GoodIn wsX1_end wsX1_plans := goodIn_r _ [23, 7, 8, 24, 25, 26, 27, 13, 14, 15, 11, 16, 1, 17, 18, 19, 4, 9, 10, 12, 28, 29, 30, 31, 5, 32, 33, 34, 35, 36, 37, 38, 39, 40, 41, 42, 43, 44, 45, 46, 47, 48, 49, 50, 51, 52, 53, 54] (by decide +kernel) (by decide +kernel)
set_option maxRecDepth 20000 in
theorem gX1_end_X1_plans : GoodIn wsX1_end (wsV RX1 98 RX1 yX1_plans wsX1_plans) := goodIn_app (goodIn_of _ (by decide +kernel)) ggX1_end_X1_plans
theorem dX1_end_0 : decode cX1_end 0 = .ok (.aload_n 0, 1) := by decide +kernel
theorem dX1_end_1 : decode cX1_end 1 = .ok (.iload_n 1, 1) := by decide +kernel
theorem dX1_end_2 : decode cX1_end 2 = .ok (.iconst 0, 1) := by decide +kernel
theorem dX1_end_3 : decode cX1_end 3 = .ok (.aload_n 0, 1) := by decide +kernel
theorem dX1_end_4 : decode cX1_end 4 = .ok (.getfield 86, 3) := by decide +kernel
theorem dX1_end_7 : decode cX1_end 7 = .ok (.iconst 1, 1) := by decide +kernel
theorem dX1_end_8 : decode cX1_end 8 = .ok (.isub, 1) := by decide +kernel
theorem dX1_end_9 : decode cX1_end 9 = .ok (.invokestatic 60, 3) := by decide +kernel
theorem dX1_end_12 : decode cX1_end 12 = .ok (.ifCond .eq 7, 3) := by decide +kernel
theorem dX1_end_15 : decode cX1_end 15 = .ok (.iconst 0, 1) := by decide +kernel
theorem dX1_end_16 : decode cX1_end 16 = .ok (.goto 4, 3) := by decide +kernel
theorem dX1_end_19 : decode cX1_end 19 = .ok (.iconst 1, 1) := by decide +kernel
theorem dX1_end_20 : decode cX1_end 20 = .ok (.putfield 53, 3) := by decide +kernel
theorem dX1_end_23 : decode cX1_end 23 = .ok (.aload_n 0, 1) := by decide +kernel
theorem dX1_end_24 : decode cX1_end 24 = .ok (.getfield 53, 3) := by decide +kernel
theorem dX1_end_27 : decode cX1_end 27 = .ok (.ifCond .le 5, 3) := by decide +kernel
theorem dX1_end_30 : decode cX1_end 30 = .ok (.iconst 0, 1) := by decide +kernel
theorem dX1_end_31 : decode cX1_end 31 = .ok (.ireturn, 1) := by decide +kernel
theorem dX1_end_32 : decode cX1_end 32 = .ok (.aload_n 0, 1) := by decide +kernel
theorem dX1_end_33 : decode cX1_end 33 = .ok (.iload_n 2, 1) := by decide +kernel
theorem dX1_end_34 : decode cX1_end 34 = .ok (.aload_n 0, 1) := by decide +kernel
theorem dX1_end_35 : decode cX1_end 35 = .ok (.getfield 89, 3) := by decide +kernel
theorem dX1_end_38 : decode cX1_end 38 = .ok (.iconst 1, 1) := by decide +kernel
theorem dX1_end_39 : decode cX1_end 39 = .ok (.isub, 1) := by decide +kernel
theorem dX1_end_40 : decode cX1_end 40 = .ok (.sipush 1459, 3) := by decide +kernel
theorem dX1_end_43 : decode cX1_end 43 = .ok (.invokestatic 60, 3) := by decide +kernel
theorem dX1_end_46 : decode cX1_end 46 = .ok (.ifCond .ne 7, 3) := by decide +kernel
theorem dX1_end_49 : decode cX1_end 49 = .ok (.iconst 2, 1) := by decide +kernel
theorem dX1_end_50 : decode cX1_end 50 = .ok (.goto 18, 3) := by decide +kernel
theorem dX1_end_53 : decode cX1_end 53 = .ok (.aload_n 0, 1) := by decide +kernel
theorem dX1_end_54 : decode cX1_end 54 = .ok (.getfield 34, 3) := by decide +kernel
theorem dX1_end_57 : decode cX1_end 57 = .ok (.iload_n 1, 1) := by decide +kernel
theorem dX1_end_58 : decode cX1_end 58 = .ok (.iaload, 1) := by decide +kernel
theorem dX1_end_59 : decode cX1_end 59 = .ok (.iload_n 2, 1) := by decide +kernel
theorem dX1_end_60 : decode cX1_end 60 = .ok (.if_icmp .gt 7, 3) := by decide +kernel
theorem dX1_end_63 : decode cX1_end 63 = .ok (.iconst 3, 1) := by decide +kernel
theorem dX1_end_64 : decode cX1_end 64 = .ok (.goto 4, 3) := by decide +kernel
theorem dX1_end_67 : decode cX1_end 67 = .ok (.iconst 0, 1) := by decide +kernel
theorem dX1_end_68 : decode cX1_end 68 = .ok (.putfield 53, 3) := by decide +kernel
theorem dX1_end_71 : decode cX1_end 71 = .ok (.aload_n 0, 1) := by decide +kernel
theorem dX1_end_72 : decode cX1_end 72 = .ok (.getfield 53, 3) := by decide +kernel
theorem dX1_end_75 : decode cX1_end 75 = .ok (.ifCond .le 5, 3) := by decide +kernel
theorem dX1_end_78 : decode cX1_end 78 = .ok (.iconst 0, 1) := by decide +kernel
theorem dX1_end_79 : decode cX1_end 79 = .ok (.ireturn, 1) := by decide +kernel
theorem dX1_end_80 : decode cX1_end 80 = .ok (.aload_n 0, 1) := by decide +kernel
theorem dX1_end_81 : decode cX1_end 81 = .ok (.getfield 34, 3) := by decide +kernel
theorem dX1_end_84 : decode cX1_end 84 = .ok (.iload_n 1, 1) := by decide +kernel
theorem dX1_end_85 : decode cX1_end 85 = .ok (.iload_n 2, 1) := by decide +kernel
theorem dX1_end_86 : decode cX1_end 86 = .ok (.iastore, 1) := by decide +kernel
theorem dX1_end_87 : decode cX1_end 87 = .ok (.iconst 0, 1) := by decide +kernel
theorem dX1_end_88 : decode cX1_end 88 = .ok (.istore_n 3, 1) := by decide +kernel
theorem dX1_end_89 : decode cX1_end 89 = .ok (.iconst 0, 1) := by decide +kernel
theorem dX1_end_90 : decode cX1_end 90 = .ok (.istore 4, 2) := by decide +kernel
theorem dX1_end_92 : decode cX1_end 92 = .ok (.iload 4, 2) := by decide +kernel
theorem dX1_end_94 : decode cX1_end 94 = .ok (.aload_n 0, 1) := by decide +kernel
theorem dX1_end_95 : decode cX1_end 95 = .ok (.getfield 92, 3) := by decide +kernel
theorem dX1_end_98 : decode cX1_end 98 = .ok (.if_icmp .ge 86, 3) := by decide +kernel
theorem dX1_end_101 : decode cX1_end 101 = .ok (.aload_n 0, 1) := by decide +kernel
theorem dX1_end_102 : decode cX1_end 102 = .ok (.getfield 49, 3) := by decide +kernel
theorem dX1_end_105 : decode cX1_end 105 = .ok (.iload 4, 2) := by decide +kernel
theorem dX1_end_107 : decode cX1_end 107 = .ok (.aload_n 0, 1) := by decide +kernel
theorem dX1_end_108 : decode cX1_end 108 = .ok (.getfield 43, 3) := by decide +kernel
theorem dX1_end_111 : decode cX1_end 111 = .ok (.iload 4, 2) := by decide +kernel
theorem dX1_end_113 : decode cX1_end 113 = .ok (.iaload, 1) := by decide +kernel
theorem dX1_end_114 : decode cX1_end 114 = .ok (.aload_n 0, 1) := by decide +kernel
theorem dX1_end_115 : decode cX1_end 115 = .ok (.getfield 89, 3) := by decide +kernel
theorem dX1_end_118 : decode cX1_end 118 = .ok (.if_icmp .lt 40, 3) := by decide +kernel
theorem dX1_end_121 : decode cX1_end 121 = .ok (.aload_n 0, 1) := by decide +kernel
theorem dX1_end_122 : decode cX1_end 122 = .ok (.getfield 46, 3) := by decide +kernel
theorem dX1_end_125 : decode cX1_end 125 = .ok (.iload 4, 2) := by decide +kernel
theorem dX1_end_127 : decode cX1_end 127 = .ok (.iaload, 1) := by decide +kernel
theorem dX1_end_128 : decode cX1_end 128 = .ok (.iconst (-1), 1) := by decide +kernel
theorem dX1_end_129 : decode cX1_end 129 = .ok (.if_icmp .eq 29, 3) := by decide +kernel
theorem dX1_end_132 : decode cX1_end 132 = .ok (.aload_n 0, 1) := by decide +kernel
theorem dX1_end_133 : decode cX1_end 133 = .ok (.aload_n 0, 1) := by decide +kernel
theorem dX1_end_134 : decode cX1_end 134 = .ok (.getfield 46, 3) := by decide +kernel
theorem dX1_end_137 : decode cX1_end 137 = .ok (.iload 4, 2) := by decide +kernel
theorem dX1_end_139 : decode cX1_end 139 = .ok (.iaload, 1) := by decide +kernel
theorem dX1_end_140 : decode cX1_end 140 = .ok (.iconst 0, 1) := by decide +kernel
theorem dX1_end_141 : decode cX1_end 141 = .ok (.aload_n 0, 1) := by decide +kernel
theorem dX1_end_142 : decode cX1_end 142 = .ok (.getfield 43, 3) := by decide +kernel
theorem dX1_end_145 : decode cX1_end 145 = .ok (.iload 4, 2) := by decide +kernel
theorem dX1_end_147 : decode cX1_end 147 = .ok (.iaload, 1) := by decide +kernel
theorem dX1_end_148 : decode cX1_end 148 = .ok (.invokevirtual 95, 3) := by decide +kernel
theorem dX1_end_151 : decode cX1_end 151 = .ok (.ifCond .ne 7, 3) := by decide +kernel
theorem dX1_end_154 : decode cX1_end 154 = .ok (.iconst 1, 1) := by decide +kernel
theorem dX1_end_155 : decode cX1_end 155 = .ok (.goto 4, 3) := by decide +kernel
theorem dX1_end_158 : decode cX1_end 158 = .ok (.iconst 0, 1) := by decide +kernel
theorem dX1_end_159 : decode cX1_end 159 = .ok (.bastore, 1) := by decide +kernel
theorem dX1_end_160 : decode cX1_end 160 = .ok (.iload_n 3, 1) := by decide +kernel
theorem dX1_end_161 : decode cX1_end 161 = .ok (.aload_n 0, 1) := by decide +kernel
theorem dX1_end_162 : decode cX1_end 162 = .ok (.getfield 49, 3) := by decide +kernel
theorem dX1_end_165 : decode cX1_end 165 = .ok (.iload 4, 2) := by decide +kernel
theorem dX1_end_167 : decode cX1_end 167 = .ok (.baload, 1) := by decide +kernel
theorem dX1_end_168 : decode cX1_end 168 = .ok (.ifCond .eq 7, 3) := by decide +kernel
theorem dX1_end_171 : decode cX1_end 171 = .ok (.iconst 1, 1) := by decide +kernel
theorem dX1_end_172 : decode cX1_end 172 = .ok (.goto 4, 3) := by decide +kernel
theorem dX1_end_175 : decode cX1_end 175 = .ok (.iconst 0, 1) := by decide +kernel
theorem dX1_end_176 : decode cX1_end 176 = .ok (.iadd, 1) := by decide +kernel
theorem dX1_end_177 : decode cX1_end 177 = .ok (.istore_n 3, 1) := by decide +kernel
theorem dX1_end_178 : decode cX1_end 178 = .ok (.iinc 4 1, 3) := by decide +kernel
theorem dX1_end_181 : decode cX1_end 181 = .ok (.goto (-89), 3) := by decide +kernel
theorem dX1_end_184 : decode cX1_end 184 = .ok (.iconst 0, 1) := by decide +kernel
theorem dX1_end_185 : decode cX1_end 185 = .ok (.istore 4, 2) := by decide +kernel
theorem dX1_end_187 : decode cX1_end 187 = .ok (.iload 4, 2) := by decide +kernel
theorem dX1_end_189 : decode cX1_end 189 = .ok (.aload_n 0, 1) := by decide +kernel
theorem dX1_end_190 : decode cX1_end 190 = .ok (.getfield 92, 3) := by decide +kernel
theorem dX1_end_193 : decode cX1_end 193 = .ok (.if_icmp .ge 37, 3) := by decide +kernel
theorem dX1_end_196 : decode cX1_end 196 = .ok (.aload_n 0, 1) := by decide +kernel
theorem dX1_end_197 : decode cX1_end 197 = .ok (.getfield 46, 3) := by decide +kernel
theorem dX1_end_200 : decode cX1_end 200 = .ok (.iload 4, 2) := by decide +kernel
theorem dX1_end_202 : decode cX1_end 202 = .ok (.aload_n 0, 1) := by decide +kernel
theorem dX1_end_203 : decode cX1_end 203 = .ok (.getfield 49, 3) := by decide +kernel
theorem dX1_end_206 : decode cX1_end 206 = .ok (.iload 4, 2) := by decide +kernel
theorem dX1_end_208 : decode cX1_end 208 = .ok (.baload, 1) := by decide +kernel
theorem dX1_end_209 : decode cX1_end 209 = .ok (.ifCond .eq 7, 3) := by decide +kernel
theorem dX1_end_212 : decode cX1_end 212 = .ok (.iconst (-1), 1) := by decide +kernel
theorem dX1_end_213 : decode cX1_end 213 = .ok (.goto 10, 3) := by decide +kernel
theorem dX1_end_216 : decode cX1_end 216 = .ok (.aload_n 0, 1) := by decide +kernel
theorem dX1_end_217 : decode cX1_end 217 = .ok (.getfield 46, 3) := by decide +kernel
theorem dX1_end_220 : decode cX1_end 220 = .ok (.iload 4, 2) := by decide +kernel
theorem dX1_end_222 : decode cX1_end 222 = .ok (.iaload, 1) := by decide +kernel
theorem dX1_end_223 : decode cX1_end 223 = .ok (.iastore, 1) := by decide +kernel
theorem dX1_end_224 : decode cX1_end 224 = .ok (.iinc 4 1, 3) := by decide +kernel
theorem dX1_end_227 : decode cX1_end 227 = .ok (.goto (-40), 3) := by decide +kernel
theorem dX1_end_230 : decode cX1_end 230 = .ok (.iconst 0, 1) := by decide +kernel
theorem dX1_end_231 : decode cX1_end 231 = .ok (.istore 4, 2) := by decide +kernel
theorem dX1_end_233 : decode cX1_end 233 = .ok (.iload 4, 2) := by decide +kernel
theorem dX1_end_235 : decode cX1_end 235 = .ok (.aload_n 0, 1) := by decide +kernel
theorem dX1_end_236 : decode cX1_end 236 = .ok (.getfield 92, 3) := by decide +kernel
theorem dX1_end_239 : decode cX1_end 239 = .ok (.if_icmp .ge 25, 3) := by decide +kernel
theorem dX1_end_242 : decode cX1_end 242 = .ok (.aload_n 0, 1) := by decide +kernel
theorem dX1_end_243 : decode cX1_end 243 = .ok (.getfield 49, 3) := by decide +kernel
theorem dX1_end_246 : decode cX1_end 246 = .ok (.iload 4, 2) := by decide +kernel
theorem dX1_end_248 : decode cX1_end 248 = .ok (.baload, 1) := by decide +kernel
theorem dX1_end_249 : decode cX1_end 249 = .ok (.ifCond .eq 9, 3) := by decide +kernel
theorem dX1_end_252 : decode cX1_end 252 = .ok (.aload_n 0, 1) := by decide +kernel
theorem dX1_end_253 : decode cX1_end 253 = .ok (.iload 4, 2) := by decide +kernel
theorem dX1_end_255 : decode cX1_end 255 = .ok (.invokevirtual 98, 3) := by decide +kernel
theorem dX1_end_258 : decode cX1_end 258 = .ok (.iinc 4 1, 3) := by decide +kernel
theorem dX1_end_261 : decode cX1_end 261 = .ok (.goto (-28), 3) := by decide +kernel
theorem dX1_end_264 : decode cX1_end 264 = .ok (.iload_n 3, 1) := by decide +kernel
theorem dX1_end_265 : decode cX1_end 265 = .ok (.ireturn, 1) := by decide +kernel
set_option maxRecDepth 20000 in
theorem ggX1_hasRight_X1_isHymn : GoodIn wsX1_hasRight wsX1_isHymn := goodIn_r _ [6, 7, 8, 9, 5, 10, 26, 27, 28, 29, 30, 31, 32, 33, 34, 35, 36, 37, 38, 39, 40, 41, 42, 43, 44] (by decide +kernel) (by decide +kernel)
set_option maxRecDepth 20000 in
theorem gX1_hasRight_X1_isHymn : GoodIn wsX1_hasRight (wsV RX1 72 RX1 yX1_isHymn wsX1_isHymn) := goodIn_app (goodIn_of _ (by decide +kernel)) ggX1_hasRight_X1_isHymn
set_option maxRecDepth 20000 in
theorem ggX1_hasRight_X1_isUse : GoodIn wsX1_hasRight wsX1_isUse := goodIn_r _ [13, 8, 9, 5, 10] (by decide +kernel) (by decide +kernel)
set_option maxRecDepth 20000 in
theorem gX1_hasRight_X1_isUse : GoodIn wsX1_hasRight (va_wsS RX1 80 yX1_isUse wsX1_isUse) := goodIn_app (goodIn_of _ (by decide +kernel)) ggX1_hasRight_X1_isUse
set_option maxRecDepth 20000 in
theorem ggX1_hasRight_X1_isDay : GoodIn wsX1_hasRight wsX1_isDay := goodIn_r _ [16, 8, 9, 5, 10] (by decide +kernel) (by decide +kernel)
set_option maxRecDepth 20000 in
theorem gX1_hasRight_X1_isDay : GoodIn wsX1_hasRight (va_wsS RX1 83 yX1_isDay wsX1_isDay) := goodIn_app (goodIn_of _ (by decide +kernel)) ggX1_hasRight_X1_isDay
set_option maxRecDepth 20000 in
theorem ggX1_hasRight_X1_may : GoodIn wsX1_hasRight wsX1_may := goodIn_r _ [20, 21, 22, 23, 24, 25, 8, 9, 5, 10, 26, 27, 28, 29, 30, 31, 32, 33, 34, 35, 36, 37, 38, 39, 40, 41, 42, 43, 44] (by decide +kernel) (by decide +kernel)
set_option maxRecDepth 20000 in
theorem gX1_hasRight_X1_may : GoodIn wsX1_hasRight (wsV RX1 95 RX1 yX1_may wsX1_may) := goodIn_app (goodIn_of _ (by decide +kernel)) ggX1_hasRight_X1_may
theorem dX1_hasRight_0 : decode cX1_hasRight 0 = .ok (.aload_n 0, 1) := by decide +kernel
theorem dX1_hasRight_1 : decode cX1_hasRight 1 = .ok (.aload_n 0, 1) := by decide +kernel
theorem dX1_hasRight_2 : decode cX1_hasRight 2 = .ok (.iload_n 1, 1) := by decide +kernel
theorem dX1_hasRight_3 : decode cX1_hasRight 3 = .ok (.invokevirtual 72, 3) := by decide +kernel
theorem dX1_hasRight_6 : decode cX1_hasRight 6 = .ok (.ifCond .eq 10, 3) := by decide +kernel
theorem dX1_hasRight_9 : decode cX1_hasRight 9 = .ok (.iload_n 2, 1) := by decide +kernel
theorem dX1_hasRight_10 : decode cX1_hasRight 10 = .ok (.invokestatic 80, 3) := by decide +kernel
theorem dX1_hasRight_13 : decode cX1_hasRight 13 = .ok (.ifCond .ne 7, 3) := by decide +kernel
theorem dX1_hasRight_16 : decode cX1_hasRight 16 = .ok (.iconst 1, 1) := by decide +kernel
theorem dX1_hasRight_17 : decode cX1_hasRight 17 = .ok (.goto 15, 3) := by decide +kernel
theorem dX1_hasRight_20 : decode cX1_hasRight 20 = .ok (.iload_n 3, 1) := by decide +kernel
theorem dX1_hasRight_21 : decode cX1_hasRight 21 = .ok (.invokestatic 83, 3) := by decide +kernel
theorem dX1_hasRight_24 : decode cX1_hasRight 24 = .ok (.ifCond .eq 7, 3) := by decide +kernel
theorem dX1_hasRight_27 : decode cX1_hasRight 27 = .ok (.iconst 0, 1) := by decide +kernel
theorem dX1_hasRight_28 : decode cX1_hasRight 28 = .ok (.goto 4, 3) := by decide +kernel
theorem dX1_hasRight_31 : decode cX1_hasRight 31 = .ok (.iconst 2, 1) := by decide +kernel
theorem dX1_hasRight_32 : decode cX1_hasRight 32 = .ok (.putfield 53, 3) := by decide +kernel
theorem dX1_hasRight_35 : decode cX1_hasRight 35 = .ok (.aload_n 0, 1) := by decide +kernel
theorem dX1_hasRight_36 : decode cX1_hasRight 36 = .ok (.getfield 53, 3) := by decide +kernel
theorem dX1_hasRight_39 : decode cX1_hasRight 39 = .ok (.ifCond .ne 17, 3) := by decide +kernel
theorem dX1_hasRight_42 : decode cX1_hasRight 42 = .ok (.aload_n 0, 1) := by decide +kernel
theorem dX1_hasRight_43 : decode cX1_hasRight 43 = .ok (.iload_n 1, 1) := by decide +kernel
theorem dX1_hasRight_44 : decode cX1_hasRight 44 = .ok (.iload_n 2, 1) := by decide +kernel
theorem dX1_hasRight_45 : decode cX1_hasRight 45 = .ok (.iload_n 3, 1) := by decide +kernel
theorem dX1_hasRight_46 : decode cX1_hasRight 46 = .ok (.invokevirtual 95, 3) := by decide +kernel
theorem dX1_hasRight_49 : decode cX1_hasRight 49 = .ok (.ifCond .eq 7, 3) := by decide +kernel
theorem dX1_hasRight_52 : decode cX1_hasRight 52 = .ok (.iconst 1, 1) := by decide +kernel
theorem dX1_hasRight_53 : decode cX1_hasRight 53 = .ok (.goto 4, 3) := by decide +kernel
theorem dX1_hasRight_56 : decode cX1_hasRight 56 = .ok (.iconst 0, 1) := by decide +kernel
theorem dX1_hasRight_57 : decode cX1_hasRight 57 = .ok (.ireturn, 1) := by decide +kernel
set_option maxRecDepth 20000 in
theorem ggX1_print_X1_isHymn : GoodIn wsX1_print wsX1_isHymn := goodIn_r _ [8, 9, 10, 11, 7, 12, 36, 37, 38, 39, 40, 41, 42, 43, 44, 45, 46, 47, 48, 49, 50, 51, 52, 53, 54] (by decide +kernel) (by decide +kernel)
set_option maxRecDepth 20000 in
theorem gX1_print_X1_isHymn : GoodIn wsX1_print (wsV RX1 72 RX1 yX1_isHymn wsX1_isHymn) := goodIn_app (goodIn_of _ (by decide +kernel)) ggX1_print_X1_isHymn
set_option maxRecDepth 20000 in
theorem ggX1_print_X1_isIn : GoodIn wsX1_print wsX1_isIn := goodIn_r _ [12] (by decide +kernel) (by decide +kernel)
set_option maxRecDepth 20000 in
theorem gX1_print_X1_isIn : GoodIn wsX1_print (va_wsS RX1 60 yX1_isIn wsX1_isIn) := goodIn_app (goodIn_of _ (by decide +kernel)) ggX1_print_X1_isIn
set_option maxRecDepth 20000 in
theorem ggX1_print_X1_may : GoodIn wsX1_print wsX1_may := goodIn_r _ [16, 17, 18, 19, 20, 21, 10, 11, 7, 12, 36, 37, 38, 39, 40, 41, 42, 43, 44, 45, 46, 47, 48, 49, 50, 51, 52, 53, 54] (by decide +kernel) (by decide +kernel)
set_option maxRecDepth 20000 in
theorem gX1_print_X1_may : GoodIn wsX1_print (wsV RX1 95 RX1 yX1_may wsX1_may) := goodIn_app (goodIn_of _ (by decide +kernel)) ggX1_print_X1_may
set_option maxRecDepth 20000 in
theorem ggX1_print_X1_pagesOf : GoodIn wsX1_print wsX1_pagesOf := goodIn_r _ [25, 26, 27, 28, 29, 7, 30, 31, 32, 33, 34, 35, 36, 37, 38, 39, 40, 41, 42, 43, 44, 45, 46, 47, 48, 49, 50, 51, 52, 53, 54] (by decide +kernel) (by decide +kernel)
set_option maxRecDepth 20000 in
theorem gX1_print_X1_pagesOf : GoodIn wsX1_print (wsV RX1 76 RX1 yX1_pagesOf wsX1_pagesOf) := goodIn_app (goodIn_of _ (by decide +kernel)) ggX1_print_X1_pagesOf
theorem dX1_print_0 : decode cX1_print 0 = .ok (.aload_n 0, 1) := by decide +kernel
theorem dX1_print_1 : decode cX1_print 1 = .ok (.aload_n 0, 1) := by decide +kernel
theorem dX1_print_2 : decode cX1_print 2 = .ok (.iload_n 1, 1) := by decide +kernel
theorem dX1_print_3 : decode cX1_print 3 = .ok (.invokevirtual 72, 3) := by decide +kernel
theorem dX1_print_6 : decode cX1_print 6 = .ok (.ifCond .ne 7, 3) := by decide +kernel
theorem dX1_print_9 : decode cX1_print 9 = .ok (.iconst 1, 1) := by decide +kernel
theorem dX1_print_10 : decode cX1_print 10 = .ok (.goto 19, 3) := by decide +kernel
theorem dX1_print_13 : decode cX1_print 13 = .ok (.iload_n 2, 1) := by decide +kernel
theorem dX1_print_14 : decode cX1_print 14 = .ok (.iconst 1, 1) := by decide +kernel
theorem dX1_print_15 : decode cX1_print 15 = .ok (.sipush 1000, 3) := by decide +kernel
theorem dX1_print_18 : decode cX1_print 18 = .ok (.invokestatic 60, 3) := by decide +kernel
theorem dX1_print_21 : decode cX1_print 21 = .ok (.ifCond .eq 7, 3) := by decide +kernel
theorem dX1_print_24 : decode cX1_print 24 = .ok (.iconst 0, 1) := by decide +kernel
theorem dX1_print_25 : decode cX1_print 25 = .ok (.goto 4, 3) := by decide +kernel
theorem dX1_print_28 : decode cX1_print 28 = .ok (.iconst 2, 1) := by decide +kernel
theorem dX1_print_29 : decode cX1_print 29 = .ok (.putfield 53, 3) := by decide +kernel
theorem dX1_print_32 : decode cX1_print 32 = .ok (.aload_n 0, 1) := by decide +kernel
theorem dX1_print_33 : decode cX1_print 33 = .ok (.getfield 53, 3) := by decide +kernel
theorem dX1_print_36 : decode cX1_print 36 = .ok (.ifCond .le 5, 3) := by decide +kernel
theorem dX1_print_39 : decode cX1_print 39 = .ok (.iconst 0, 1) := by decide +kernel
theorem dX1_print_40 : decode cX1_print 40 = .ok (.ireturn, 1) := by decide +kernel
theorem dX1_print_41 : decode cX1_print 41 = .ok (.aload_n 0, 1) := by decide +kernel
theorem dX1_print_42 : decode cX1_print 42 = .ok (.aload_n 0, 1) := by decide +kernel
theorem dX1_print_43 : decode cX1_print 43 = .ok (.iload_n 1, 1) := by decide +kernel
theorem dX1_print_44 : decode cX1_print 44 = .ok (.iconst 1, 1) := by decide +kernel
theorem dX1_print_45 : decode cX1_print 45 = .ok (.aload_n 0, 1) := by decide +kernel
theorem dX1_print_46 : decode cX1_print 46 = .ok (.getfield 89, 3) := by decide +kernel
theorem dX1_print_49 : decode cX1_print 49 = .ok (.invokevirtual 95, 3) := by decide +kernel
theorem dX1_print_52 : decode cX1_print 52 = .ok (.ifCond .eq 7, 3) := by decide +kernel
theorem dX1_print_55 : decode cX1_print 55 = .ok (.iconst 0, 1) := by decide +kernel
theorem dX1_print_56 : decode cX1_print 56 = .ok (.goto 4, 3) := by decide +kernel
theorem dX1_print_59 : decode cX1_print 59 = .ok (.iconst 3, 1) := by decide +kernel
theorem dX1_print_60 : decode cX1_print 60 = .ok (.putfield 53, 3) := by decide +kernel
theorem dX1_print_63 : decode cX1_print 63 = .ok (.aload_n 0, 1) := by decide +kernel
theorem dX1_print_64 : decode cX1_print 64 = .ok (.getfield 53, 3) := by decide +kernel
theorem dX1_print_67 : decode cX1_print 67 = .ok (.ifCond .le 5, 3) := by decide +kernel
theorem dX1_print_70 : decode cX1_print 70 = .ok (.iconst 0, 1) := by decide +kernel
theorem dX1_print_71 : decode cX1_print 71 = .ok (.ireturn, 1) := by decide +kernel
theorem dX1_print_72 : decode cX1_print 72 = .ok (.aload_n 0, 1) := by decide +kernel
theorem dX1_print_73 : decode cX1_print 73 = .ok (.getfield 22, 3) := by decide +kernel
theorem dX1_print_76 : decode cX1_print 76 = .ok (.iconst 4, 1) := by decide +kernel
theorem dX1_print_77 : decode cX1_print 77 = .ok (.iload_n 1, 1) := by decide +kernel
theorem dX1_print_78 : decode cX1_print 78 = .ok (.imul, 1) := by decide +kernel
theorem dX1_print_79 : decode cX1_print 79 = .ok (.aload_n 0, 1) := by decide +kernel
theorem dX1_print_80 : decode cX1_print 80 = .ok (.getfield 89, 3) := by decide +kernel
theorem dX1_print_83 : decode cX1_print 83 = .ok (.sipush 365, 3) := by decide +kernel
theorem dX1_print_86 : decode cX1_print 86 = .ok (.idiv, 1) := by decide +kernel
theorem dX1_print_87 : decode cX1_print 87 = .ok (.iadd, 1) := by decide +kernel
theorem dX1_print_88 : decode cX1_print 88 = .ok (.dup2, 1) := by decide +kernel
theorem dX1_print_89 : decode cX1_print 89 = .ok (.iaload, 1) := by decide +kernel
theorem dX1_print_90 : decode cX1_print 90 = .ok (.iload_n 2, 1) := by decide +kernel
theorem dX1_print_91 : decode cX1_print 91 = .ok (.iadd, 1) := by decide +kernel
theorem dX1_print_92 : decode cX1_print 92 = .ok (.iastore, 1) := by decide +kernel
theorem dX1_print_93 : decode cX1_print 93 = .ok (.iload_n 2, 1) := by decide +kernel
theorem dX1_print_94 : decode cX1_print 94 = .ok (.aload_n 0, 1) := by decide +kernel
theorem dX1_print_95 : decode cX1_print 95 = .ok (.iload_n 1, 1) := by decide +kernel
theorem dX1_print_96 : decode cX1_print 96 = .ok (.invokevirtual 76, 3) := by decide +kernel
theorem dX1_print_99 : decode cX1_print 99 = .ok (.imul, 1) := by decide +kernel
theorem dX1_print_100 : decode cX1_print 100 = .ok (.ireturn, 1) := by decide +kernel
set_option maxRecDepth 20000 in
theorem ggX1_printed_X1_isHymn : GoodIn wsX1_printed wsX1_isHymn := goodIn_r _ [7, 8, 9, 10, 6, 11, 12, 13, 14, 15, 16, 17, 18, 19, 20, 21, 22, 23, 24, 25, 26, 27, 28, 29, 30] (by decide +kernel) (by decide +kernel)
set_option maxRecDepth 20000 in
theorem gX1_printed_X1_isHymn : GoodIn wsX1_printed (wsV RX1 72 RX1 yX1_isHymn wsX1_isHymn) := goodIn_app (goodIn_of _ (by decide +kernel)) ggX1_printed_X1_isHymn
set_option maxRecDepth 20000 in
theorem ggX1_printed_X1_isIn : GoodIn wsX1_printed wsX1_isIn := goodIn_r _ [11] (by decide +kernel) (by decide +kernel)
set_option maxRecDepth 20000 in
theorem gX1_printed_X1_isIn : GoodIn wsX1_printed (va_wsS RX1 60 yX1_isIn wsX1_isIn) := goodIn_app (goodIn_of _ (by decide +kernel)) ggX1_printed_X1_isIn
theorem dX1_printed_0 : decode cX1_printed 0 = .ok (.aload_n 0, 1) := by decide +kernel
theorem dX1_printed_1 : decode cX1_printed 1 = .ok (.aload_n 0, 1) := by decide +kernel
theorem dX1_printed_2 : decode cX1_printed 2 = .ok (.iload_n 1, 1) := by decide +kernel
theorem dX1_printed_3 : decode cX1_printed 3 = .ok (.invokevirtual 72, 3) := by decide +kernel
theorem dX1_printed_6 : decode cX1_printed 6 = .ok (.ifCond .eq 16, 3) := by decide +kernel
theorem dX1_printed_9 : decode cX1_printed 9 = .ok (.iload_n 2, 1) := by decide +kernel
theorem dX1_printed_10 : decode cX1_printed 10 = .ok (.iconst 0, 1) := by decide +kernel
theorem dX1_printed_11 : decode cX1_printed 11 = .ok (.iconst 3, 1) := by decide +kernel
theorem dX1_printed_12 : decode cX1_printed 12 = .ok (.invokestatic 60, 3) := by decide +kernel
theorem dX1_printed_15 : decode cX1_printed 15 = .ok (.ifCond .eq 7, 3) := by decide +kernel
theorem dX1_printed_18 : decode cX1_printed 18 = .ok (.iconst 0, 1) := by decide +kernel
theorem dX1_printed_19 : decode cX1_printed 19 = .ok (.goto 4, 3) := by decide +kernel
theorem dX1_printed_22 : decode cX1_printed 22 = .ok (.iconst 1, 1) := by decide +kernel
theorem dX1_printed_23 : decode cX1_printed 23 = .ok (.putfield 53, 3) := by decide +kernel
theorem dX1_printed_26 : decode cX1_printed 26 = .ok (.aload_n 0, 1) := by decide +kernel
theorem dX1_printed_27 : decode cX1_printed 27 = .ok (.getfield 53, 3) := by decide +kernel
theorem dX1_printed_30 : decode cX1_printed 30 = .ok (.ifCond .le 7, 3) := by decide +kernel
theorem dX1_printed_33 : decode cX1_printed 33 = .ok (.iconst 0, 1) := by decide +kernel
theorem dX1_printed_34 : decode cX1_printed 34 = .ok (.goto 13, 3) := by decide +kernel
theorem dX1_printed_37 : decode cX1_printed 37 = .ok (.aload_n 0, 1) := by decide +kernel
theorem dX1_printed_38 : decode cX1_printed 38 = .ok (.getfield 22, 3) := by decide +kernel
theorem dX1_printed_41 : decode cX1_printed 41 = .ok (.iconst 4, 1) := by decide +kernel
theorem dX1_printed_42 : decode cX1_printed 42 = .ok (.iload_n 1, 1) := by decide +kernel
theorem dX1_printed_43 : decode cX1_printed 43 = .ok (.imul, 1) := by decide +kernel
theorem dX1_printed_44 : decode cX1_printed 44 = .ok (.iload_n 2, 1) := by decide +kernel
theorem dX1_printed_45 : decode cX1_printed 45 = .ok (.iadd, 1) := by decide +kernel
theorem dX1_printed_46 : decode cX1_printed 46 = .ok (.iaload, 1) := by decide +kernel
theorem dX1_printed_47 : decode cX1_printed 47 = .ok (.ireturn, 1) := by decide +kernel
set_option maxRecDepth 20000 in
theorem ggX1_learn_X1_isIn : GoodIn wsX1_learn wsX1_isIn := goodIn_r _ [6] (by decide +kernel) (by decide +kernel)
set_option maxRecDepth 20000 in
theorem gX1_learn_X1_isIn : GoodIn wsX1_learn (va_wsS RX1 60 yX1_isIn wsX1_isIn) := goodIn_app (goodIn_of _ (by decide +kernel)) ggX1_learn_X1_isIn
set_option maxRecDepth 20000 in
theorem ggX1_learn_X1_isHymn : GoodIn wsX1_learn wsX1_isHymn := goodIn_r _ [10, 11, 3, 4, 5, 6, 12, 13, 14, 15, 16, 17, 18, 19, 20, 21, 22, 23, 24, 25, 26, 27, 28, 29, 30] (by decide +kernel) (by decide +kernel)
set_option maxRecDepth 20000 in
theorem gX1_learn_X1_isHymn : GoodIn wsX1_learn (wsV RX1 72 RX1 yX1_isHymn wsX1_isHymn) := goodIn_app (goodIn_of _ (by decide +kernel)) ggX1_learn_X1_isHymn
theorem dX1_learn_0 : decode cX1_learn 0 = .ok (.aload_n 0, 1) := by decide +kernel
theorem dX1_learn_1 : decode cX1_learn 1 = .ok (.iload_n 1, 1) := by decide +kernel
theorem dX1_learn_2 : decode cX1_learn 2 = .ok (.iconst 0, 1) := by decide +kernel
theorem dX1_learn_3 : decode cX1_learn 3 = .ok (.iconst 3, 1) := by decide +kernel
theorem dX1_learn_4 : decode cX1_learn 4 = .ok (.invokestatic 60, 3) := by decide +kernel
theorem dX1_learn_7 : decode cX1_learn 7 = .ok (.ifCond .eq 15, 3) := by decide +kernel
theorem dX1_learn_10 : decode cX1_learn 10 = .ok (.aload_n 0, 1) := by decide +kernel
theorem dX1_learn_11 : decode cX1_learn 11 = .ok (.iload_n 2, 1) := by decide +kernel
theorem dX1_learn_12 : decode cX1_learn 12 = .ok (.invokevirtual 72, 3) := by decide +kernel
theorem dX1_learn_15 : decode cX1_learn 15 = .ok (.ifCond .eq 7, 3) := by decide +kernel
theorem dX1_learn_18 : decode cX1_learn 18 = .ok (.iconst 0, 1) := by decide +kernel
theorem dX1_learn_19 : decode cX1_learn 19 = .ok (.goto 4, 3) := by decide +kernel
theorem dX1_learn_22 : decode cX1_learn 22 = .ok (.iconst 1, 1) := by decide +kernel
theorem dX1_learn_23 : decode cX1_learn 23 = .ok (.putfield 53, 3) := by decide +kernel
theorem dX1_learn_26 : decode cX1_learn 26 = .ok (.aload_n 0, 1) := by decide +kernel
theorem dX1_learn_27 : decode cX1_learn 27 = .ok (.getfield 53, 3) := by decide +kernel
theorem dX1_learn_30 : decode cX1_learn 30 = .ok (.ifCond .le 5, 3) := by decide +kernel
theorem dX1_learn_33 : decode cX1_learn 33 = .ok (.iconst 0, 1) := by decide +kernel
theorem dX1_learn_34 : decode cX1_learn 34 = .ok (.ireturn, 1) := by decide +kernel
theorem dX1_learn_35 : decode cX1_learn 35 = .ok (.aload_n 0, 1) := by decide +kernel
theorem dX1_learn_36 : decode cX1_learn 36 = .ok (.getfield 37, 3) := by decide +kernel
theorem dX1_learn_39 : decode cX1_learn 39 = .ok (.iload_n 1, 1) := by decide +kernel
theorem dX1_learn_40 : decode cX1_learn 40 = .ok (.dup2, 1) := by decide +kernel
theorem dX1_learn_41 : decode cX1_learn 41 = .ok (.iaload, 1) := by decide +kernel
theorem dX1_learn_42 : decode cX1_learn 42 = .ok (.iconst 1, 1) := by decide +kernel
theorem dX1_learn_43 : decode cX1_learn 43 = .ok (.iload_n 2, 1) := by decide +kernel
theorem dX1_learn_44 : decode cX1_learn 44 = .ok (.ishl, 1) := by decide +kernel
theorem dX1_learn_45 : decode cX1_learn 45 = .ok (.ixor, 1) := by decide +kernel
theorem dX1_learn_46 : decode cX1_learn 46 = .ok (.iastore, 1) := by decide +kernel
theorem dX1_learn_47 : decode cX1_learn 47 = .ok (.aload_n 0, 1) := by decide +kernel
theorem dX1_learn_48 : decode cX1_learn 48 = .ok (.getfield 37, 3) := by decide +kernel
theorem dX1_learn_51 : decode cX1_learn 51 = .ok (.iload_n 1, 1) := by decide +kernel
theorem dX1_learn_52 : decode cX1_learn 52 = .ok (.iaload, 1) := by decide +kernel
theorem dX1_learn_53 : decode cX1_learn 53 = .ok (.iload_n 2, 1) := by decide +kernel
theorem dX1_learn_54 : decode cX1_learn 54 = .ok (.ishr, 1) := by decide +kernel
theorem dX1_learn_55 : decode cX1_learn 55 = .ok (.iconst 1, 1) := by decide +kernel
theorem dX1_learn_56 : decode cX1_learn 56 = .ok (.iand, 1) := by decide +kernel
theorem dX1_learn_57 : decode cX1_learn 57 = .ok (.iconst 1, 1) := by decide +kernel
theorem dX1_learn_58 : decode cX1_learn 58 = .ok (.if_icmp .ne 7, 3) := by decide +kernel
theorem dX1_learn_61 : decode cX1_learn 61 = .ok (.iconst 1, 1) := by decide +kernel
theorem dX1_learn_62 : decode cX1_learn 62 = .ok (.goto 4, 3) := by decide +kernel
theorem dX1_learn_65 : decode cX1_learn 65 = .ok (.iconst 0, 1) := by decide +kernel
theorem dX1_learn_66 : decode cX1_learn 66 = .ok (.ireturn, 1) := by decide +kernel
theorem dX1_servicesWith_0 : decode cX1_servicesWith 0 = .ok (.iconst 0, 1) := by decide +kernel
theorem dX1_servicesWith_1 : decode cX1_servicesWith 1 = .ok (.istore_n 2, 1) := by decide +kernel
theorem dX1_servicesWith_2 : decode cX1_servicesWith 2 = .ok (.iconst 0, 1) := by decide +kernel
theorem dX1_servicesWith_3 : decode cX1_servicesWith 3 = .ok (.istore_n 3, 1) := by decide +kernel
theorem dX1_servicesWith_4 : decode cX1_servicesWith 4 = .ok (.iload_n 3, 1) := by decide +kernel
theorem dX1_servicesWith_5 : decode cX1_servicesWith 5 = .ok (.aload_n 0, 1) := by decide +kernel
theorem dX1_servicesWith_6 : decode cX1_servicesWith 6 = .ok (.getfield 92, 3) := by decide +kernel
theorem dX1_servicesWith_9 : decode cX1_servicesWith 9 = .ok (.if_icmp .ge 27, 3) := by decide +kernel
theorem dX1_servicesWith_12 : decode cX1_servicesWith 12 = .ok (.iload_n 2, 1) := by decide +kernel
theorem dX1_servicesWith_13 : decode cX1_servicesWith 13 = .ok (.aload_n 0, 1) := by decide +kernel
theorem dX1_servicesWith_14 : decode cX1_servicesWith 14 = .ok (.getfield 46, 3) := by decide +kernel
theorem dX1_servicesWith_17 : decode cX1_servicesWith 17 = .ok (.iload_n 3, 1) := by decide +kernel
theorem dX1_servicesWith_18 : decode cX1_servicesWith 18 = .ok (.iaload, 1) := by decide +kernel
theorem dX1_servicesWith_19 : decode cX1_servicesWith 19 = .ok (.iload_n 1, 1) := by decide +kernel
theorem dX1_servicesWith_20 : decode cX1_servicesWith 20 = .ok (.if_icmp .ne 7, 3) := by decide +kernel
theorem dX1_servicesWith_23 : decode cX1_servicesWith 23 = .ok (.iconst 1, 1) := by decide +kernel
theorem dX1_servicesWith_24 : decode cX1_servicesWith 24 = .ok (.goto 4, 3) := by decide +kernel
theorem dX1_servicesWith_27 : decode cX1_servicesWith 27 = .ok (.iconst 0, 1) := by decide +kernel
theorem dX1_servicesWith_28 : decode cX1_servicesWith 28 = .ok (.iadd, 1) := by decide +kernel
theorem dX1_servicesWith_29 : decode cX1_servicesWith 29 = .ok (.istore_n 2, 1) := by decide +kernel
theorem dX1_servicesWith_30 : decode cX1_servicesWith 30 = .ok (.iinc 3 1, 3) := by decide +kernel
theorem dX1_servicesWith_33 : decode cX1_servicesWith 33 = .ok (.goto (-29), 3) := by decide +kernel
theorem dX1_servicesWith_36 : decode cX1_servicesWith 36 = .ok (.iload_n 2, 1) := by decide +kernel
theorem dX1_servicesWith_37 : decode cX1_servicesWith 37 = .ok (.ireturn, 1) := by decide +kernel
theorem dX1_isRested_0 : decode cX1_isRested 0 = .ok (.iconst 1, 1) := by decide +kernel
theorem dX1_isRested_1 : decode cX1_isRested 1 = .ok (.istore_n 3, 1) := by decide +kernel
theorem dX1_isRested_2 : decode cX1_isRested 2 = .ok (.iconst 0, 1) := by decide +kernel
theorem dX1_isRested_3 : decode cX1_isRested 3 = .ok (.istore 4, 2) := by decide +kernel
theorem dX1_isRested_5 : decode cX1_isRested 5 = .ok (.iload 4, 2) := by decide +kernel
theorem dX1_isRested_7 : decode cX1_isRested 7 = .ok (.aload_n 0, 1) := by decide +kernel
theorem dX1_isRested_8 : decode cX1_isRested 8 = .ok (.getfield 92, 3) := by decide +kernel
theorem dX1_isRested_11 : decode cX1_isRested 11 = .ok (.if_icmp .ge 108, 3) := by decide +kernel
theorem dX1_isRested_14 : decode cX1_isRested 14 = .ok (.aload_n 0, 1) := by decide +kernel
theorem dX1_isRested_15 : decode cX1_isRested 15 = .ok (.getfield 43, 3) := by decide +kernel
theorem dX1_isRested_18 : decode cX1_isRested 18 = .ok (.iload 4, 2) := by decide +kernel
theorem dX1_isRested_20 : decode cX1_isRested 20 = .ok (.iaload, 1) := by decide +kernel
theorem dX1_isRested_21 : decode cX1_isRested 21 = .ok (.aload_n 0, 1) := by decide +kernel
theorem dX1_isRested_22 : decode cX1_isRested 22 = .ok (.getfield 43, 3) := by decide +kernel
theorem dX1_isRested_25 : decode cX1_isRested 25 = .ok (.iload_n 1, 1) := by decide +kernel
theorem dX1_isRested_26 : decode cX1_isRested 26 = .ok (.iaload, 1) := by decide +kernel
theorem dX1_isRested_27 : decode cX1_isRested 27 = .ok (.if_icmp .le 20, 3) := by decide +kernel
theorem dX1_isRested_30 : decode cX1_isRested 30 = .ok (.aload_n 0, 1) := by decide +kernel
theorem dX1_isRested_31 : decode cX1_isRested 31 = .ok (.getfield 43, 3) := by decide +kernel
theorem dX1_isRested_34 : decode cX1_isRested 34 = .ok (.iload 4, 2) := by decide +kernel
theorem dX1_isRested_36 : decode cX1_isRested 36 = .ok (.iaload, 1) := by decide +kernel
theorem dX1_isRested_37 : decode cX1_isRested 37 = .ok (.aload_n 0, 1) := by decide +kernel
theorem dX1_isRested_38 : decode cX1_isRested 38 = .ok (.getfield 43, 3) := by decide +kernel
theorem dX1_isRested_41 : decode cX1_isRested 41 = .ok (.iload_n 1, 1) := by decide +kernel
theorem dX1_isRested_42 : decode cX1_isRested 42 = .ok (.iaload, 1) := by decide +kernel
theorem dX1_isRested_43 : decode cX1_isRested 43 = .ok (.isub, 1) := by decide +kernel
theorem dX1_isRested_44 : decode cX1_isRested 44 = .ok (.goto 17, 3) := by decide +kernel
theorem dX1_isRested_47 : decode cX1_isRested 47 = .ok (.aload_n 0, 1) := by decide +kernel
theorem dX1_isRested_48 : decode cX1_isRested 48 = .ok (.getfield 43, 3) := by decide +kernel
theorem dX1_isRested_51 : decode cX1_isRested 51 = .ok (.iload_n 1, 1) := by decide +kernel
theorem dX1_isRested_52 : decode cX1_isRested 52 = .ok (.iaload, 1) := by decide +kernel
theorem dX1_isRested_53 : decode cX1_isRested 53 = .ok (.aload_n 0, 1) := by decide +kernel
theorem dX1_isRested_54 : decode cX1_isRested 54 = .ok (.getfield 43, 3) := by decide +kernel
theorem dX1_isRested_57 : decode cX1_isRested 57 = .ok (.iload 4, 2) := by decide +kernel
theorem dX1_isRested_59 : decode cX1_isRested 59 = .ok (.iaload, 1) := by decide +kernel
theorem dX1_isRested_60 : decode cX1_isRested 60 = .ok (.isub, 1) := by decide +kernel
theorem dX1_isRested_61 : decode cX1_isRested 61 = .ok (.istore 5, 2) := by decide +kernel
theorem dX1_isRested_63 : decode cX1_isRested 63 = .ok (.iload_n 3, 1) := by decide +kernel
theorem dX1_isRested_64 : decode cX1_isRested 64 = .ok (.ifCond .eq 47, 3) := by decide +kernel
theorem dX1_isRested_67 : decode cX1_isRested 67 = .ok (.iload 4, 2) := by decide +kernel
theorem dX1_isRested_69 : decode cX1_isRested 69 = .ok (.iload_n 1, 1) := by decide +kernel
theorem dX1_isRested_70 : decode cX1_isRested 70 = .ok (.if_icmp .eq 37, 3) := by decide +kernel
theorem dX1_isRested_73 : decode cX1_isRested 73 = .ok (.aload_n 0, 1) := by decide +kernel
theorem dX1_isRested_74 : decode cX1_isRested 74 = .ok (.getfield 40, 3) := by decide +kernel
theorem dX1_isRested_77 : decode cX1_isRested 77 = .ok (.iload 4, 2) := by decide +kernel
theorem dX1_isRested_79 : decode cX1_isRested 79 = .ok (.iaload, 1) := by decide +kernel
theorem dX1_isRested_80 : decode cX1_isRested 80 = .ok (.aload_n 0, 1) := by decide +kernel
theorem dX1_isRested_81 : decode cX1_isRested 81 = .ok (.getfield 40, 3) := by decide +kernel
theorem dX1_isRested_84 : decode cX1_isRested 84 = .ok (.iload_n 1, 1) := by decide +kernel
theorem dX1_isRested_85 : decode cX1_isRested 85 = .ok (.iaload, 1) := by decide +kernel
theorem dX1_isRested_86 : decode cX1_isRested 86 = .ok (.if_icmp .ne 21, 3) := by decide +kernel
theorem dX1_isRested_89 : decode cX1_isRested 89 = .ok (.aload_n 0, 1) := by decide +kernel
theorem dX1_isRested_90 : decode cX1_isRested 90 = .ok (.getfield 46, 3) := by decide +kernel
theorem dX1_isRested_93 : decode cX1_isRested 93 = .ok (.iload 4, 2) := by decide +kernel
theorem dX1_isRested_95 : decode cX1_isRested 95 = .ok (.iaload, 1) := by decide +kernel
theorem dX1_isRested_96 : decode cX1_isRested 96 = .ok (.iload_n 2, 1) := by decide +kernel
theorem dX1_isRested_97 : decode cX1_isRested 97 = .ok (.if_icmp .ne 10, 3) := by decide +kernel
theorem dX1_isRested_100 : decode cX1_isRested 100 = .ok (.iload 5, 2) := by decide +kernel
theorem dX1_isRested_102 : decode cX1_isRested 102 = .ok (.bipush 28, 2) := by decide +kernel
theorem dX1_isRested_104 : decode cX1_isRested 104 = .ok (.if_icmp .lt 7, 3) := by decide +kernel
theorem dX1_isRested_107 : decode cX1_isRested 107 = .ok (.iconst 1, 1) := by decide +kernel
theorem dX1_isRested_108 : decode cX1_isRested 108 = .ok (.goto 4, 3) := by decide +kernel
theorem dX1_isRested_111 : decode cX1_isRested 111 = .ok (.iconst 0, 1) := by decide +kernel
theorem dX1_isRested_112 : decode cX1_isRested 112 = .ok (.istore_n 3, 1) := by decide +kernel
theorem dX1_isRested_113 : decode cX1_isRested 113 = .ok (.iinc 4 1, 3) := by decide +kernel
theorem dX1_isRested_116 : decode cX1_isRested 116 = .ok (.goto (-111), 3) := by decide +kernel
theorem dX1_isRested_119 : decode cX1_isRested 119 = .ok (.iload_n 3, 1) := by decide +kernel
theorem dX1_isRested_120 : decode cX1_isRested 120 = .ok (.ireturn, 1) := by decide +kernel
set_option maxRecDepth 20000 in
theorem ggX1_plans_X1_may : GoodIn wsX1_plans wsX1_may := goodIn_r _ [11, 12, 13, 14, 15, 16, 17, 18, 10, 19, 29, 30, 31, 32, 33, 34, 35, 36, 37, 38, 39, 40, 41, 42, 43, 44, 45, 46, 47] (by decide +kernel) (by decide +kernel)
set_option maxRecDepth 20000 in
theorem gX1_plans_X1_may : GoodIn wsX1_plans (wsV RX1 95 RX1 yX1_may wsX1_may) := goodIn_app (goodIn_of _ (by decide +kernel)) ggX1_plans_X1_may
set_option maxRecDepth 20000 in
theorem ggX1_plans_X1_isRested : GoodIn wsX1_plans wsX1_isRested := goodIn_r _ [23, 24, 1, 5, 2, 29, 30, 31, 32, 33, 34, 35, 36, 37, 38, 39, 40, 41, 42, 43, 44, 45, 46, 47] (by decide +kernel) (by decide +kernel)
set_option maxRecDepth 20000 in
theorem gX1_plans_X1_isRested : GoodIn wsX1_plans (wsV RX1 102 RX1 yX1_isRested wsX1_isRested) := goodIn_app (goodIn_of _ (by decide +kernel)) ggX1_plans_X1_isRested
set_option maxRecDepth 20000 in
theorem ggX1_plans_X1_servicesWith : GoodIn wsX1_plans wsX1_servicesWith := goodIn_r _ [28, 24, 2, 29, 30, 31, 32, 33, 34, 35, 36, 37, 38, 39, 40, 41, 42, 43, 44, 45, 46, 47] (by decide +kernel) (by decide +kernel)
set_option maxRecDepth 20000 in
theorem gX1_plans_X1_servicesWith : GoodIn wsX1_plans (wsV RX1 105 RX1 yX1_servicesWith wsX1_servicesWith) := goodIn_app (goodIn_of _ (by decide +kernel)) ggX1_plans_X1_servicesWith
theorem dX1_plans_0 : decode cX1_plans 0 = .ok (.aload_n 0, 1) := by decide +kernel
theorem dX1_plans_1 : decode cX1_plans 1 = .ok (.getfield 43, 3) := by decide +kernel
theorem dX1_plans_4 : decode cX1_plans 4 = .ok (.iload_n 1, 1) := by decide +kernel
theorem dX1_plans_5 : decode cX1_plans 5 = .ok (.iaload, 1) := by decide +kernel
theorem dX1_plans_6 : decode cX1_plans 6 = .ok (.sipush 365, 3) := by decide +kernel
theorem dX1_plans_9 : decode cX1_plans 9 = .ok (.irem, 1) := by decide +kernel
theorem dX1_plans_10 : decode cX1_plans 10 = .ok (.bipush 92, 2) := by decide +kernel
theorem dX1_plans_12 : decode cX1_plans 12 = .ok (.idiv, 1) := by decide +kernel
theorem dX1_plans_13 : decode cX1_plans 13 = .ok (.istore_n 2, 1) := by decide +kernel
theorem dX1_plans_14 : decode cX1_plans 14 = .ok (.aload_n 0, 1) := by decide +kernel
theorem dX1_plans_15 : decode cX1_plans 15 = .ok (.getfield 46, 3) := by decide +kernel
theorem dX1_plans_18 : decode cX1_plans 18 = .ok (.iload_n 1, 1) := by decide +kernel
theorem dX1_plans_19 : decode cX1_plans 19 = .ok (.iconst (-1), 1) := by decide +kernel
theorem dX1_plans_20 : decode cX1_plans 20 = .ok (.iastore, 1) := by decide +kernel
theorem dX1_plans_21 : decode cX1_plans 21 = .ok (.iconst (-1), 1) := by decide +kernel
theorem dX1_plans_22 : decode cX1_plans 22 = .ok (.istore_n 3, 1) := by decide +kernel
theorem dX1_plans_23 : decode cX1_plans 23 = .ok (.iconst 0, 1) := by decide +kernel
theorem dX1_plans_24 : decode cX1_plans 24 = .ok (.istore 4, 2) := by decide +kernel
theorem dX1_plans_26 : decode cX1_plans 26 = .ok (.iload 4, 2) := by decide +kernel
theorem dX1_plans_28 : decode cX1_plans 28 = .ok (.aload_n 0, 1) := by decide +kernel
theorem dX1_plans_29 : decode cX1_plans 29 = .ok (.getfield 57, 3) := by decide +kernel
theorem dX1_plans_32 : decode cX1_plans 32 = .ok (.if_icmp .ge 120, 3) := by decide +kernel
theorem dX1_plans_35 : decode cX1_plans 35 = .ok (.aload_n 0, 1) := by decide +kernel
theorem dX1_plans_36 : decode cX1_plans 36 = .ok (.getfield 37, 3) := by decide +kernel
theorem dX1_plans_39 : decode cX1_plans 39 = .ok (.aload_n 0, 1) := by decide +kernel
theorem dX1_plans_40 : decode cX1_plans 40 = .ok (.getfield 40, 3) := by decide +kernel
theorem dX1_plans_43 : decode cX1_plans 43 = .ok (.iload_n 1, 1) := by decide +kernel
theorem dX1_plans_44 : decode cX1_plans 44 = .ok (.iaload, 1) := by decide +kernel
theorem dX1_plans_45 : decode cX1_plans 45 = .ok (.iaload, 1) := by decide +kernel
theorem dX1_plans_46 : decode cX1_plans 46 = .ok (.iload 4, 2) := by decide +kernel
theorem dX1_plans_48 : decode cX1_plans 48 = .ok (.ishr, 1) := by decide +kernel
theorem dX1_plans_49 : decode cX1_plans 49 = .ok (.iconst 1, 1) := by decide +kernel
theorem dX1_plans_50 : decode cX1_plans 50 = .ok (.iand, 1) := by decide +kernel
theorem dX1_plans_51 : decode cX1_plans 51 = .ok (.iconst 1, 1) := by decide +kernel
theorem dX1_plans_52 : decode cX1_plans 52 = .ok (.if_icmp .ne 22, 3) := by decide +kernel
theorem dX1_plans_55 : decode cX1_plans 55 = .ok (.aload_n 0, 1) := by decide +kernel
theorem dX1_plans_56 : decode cX1_plans 56 = .ok (.getfield 13, 3) := by decide +kernel
theorem dX1_plans_59 : decode cX1_plans 59 = .ok (.iload 4, 2) := by decide +kernel
theorem dX1_plans_61 : decode cX1_plans 61 = .ok (.iaload, 1) := by decide +kernel
theorem dX1_plans_62 : decode cX1_plans 62 = .ok (.iload_n 2, 1) := by decide +kernel
theorem dX1_plans_63 : decode cX1_plans 63 = .ok (.ishr, 1) := by decide +kernel
theorem dX1_plans_64 : decode cX1_plans 64 = .ok (.iconst 1, 1) := by decide +kernel
theorem dX1_plans_65 : decode cX1_plans 65 = .ok (.iand, 1) := by decide +kernel
theorem dX1_plans_66 : decode cX1_plans 66 = .ok (.iconst 1, 1) := by decide +kernel
theorem dX1_plans_67 : decode cX1_plans 67 = .ok (.if_icmp .ne 7, 3) := by decide +kernel
theorem dX1_plans_70 : decode cX1_plans 70 = .ok (.iconst 1, 1) := by decide +kernel
theorem dX1_plans_71 : decode cX1_plans 71 = .ok (.goto 4, 3) := by decide +kernel
theorem dX1_plans_74 : decode cX1_plans 74 = .ok (.iconst 0, 1) := by decide +kernel
theorem dX1_plans_75 : decode cX1_plans 75 = .ok (.istore 5, 2) := by decide +kernel
theorem dX1_plans_77 : decode cX1_plans 77 = .ok (.iload 5, 2) := by decide +kernel
theorem dX1_plans_79 : decode cX1_plans 79 = .ok (.ifCond .eq 33, 3) := by decide +kernel
theorem dX1_plans_82 : decode cX1_plans 82 = .ok (.aload_n 0, 1) := by decide +kernel
theorem dX1_plans_83 : decode cX1_plans 83 = .ok (.iload 4, 2) := by decide +kernel
theorem dX1_plans_85 : decode cX1_plans 85 = .ok (.iconst 0, 1) := by decide +kernel
theorem dX1_plans_86 : decode cX1_plans 86 = .ok (.aload_n 0, 1) := by decide +kernel
theorem dX1_plans_87 : decode cX1_plans 87 = .ok (.getfield 43, 3) := by decide +kernel
theorem dX1_plans_90 : decode cX1_plans 90 = .ok (.iload_n 1, 1) := by decide +kernel
theorem dX1_plans_91 : decode cX1_plans 91 = .ok (.iaload, 1) := by decide +kernel
theorem dX1_plans_92 : decode cX1_plans 92 = .ok (.invokevirtual 95, 3) := by decide +kernel
theorem dX1_plans_95 : decode cX1_plans 95 = .ok (.ifCond .eq 17, 3) := by decide +kernel
theorem dX1_plans_98 : decode cX1_plans 98 = .ok (.aload_n 0, 1) := by decide +kernel
theorem dX1_plans_99 : decode cX1_plans 99 = .ok (.iload_n 1, 1) := by decide +kernel
theorem dX1_plans_100 : decode cX1_plans 100 = .ok (.iload 4, 2) := by decide +kernel
theorem dX1_plans_102 : decode cX1_plans 102 = .ok (.invokevirtual 102, 3) := by decide +kernel
theorem dX1_plans_105 : decode cX1_plans 105 = .ok (.ifCond .eq 7, 3) := by decide +kernel
theorem dX1_plans_108 : decode cX1_plans 108 = .ok (.iconst 1, 1) := by decide +kernel
theorem dX1_plans_109 : decode cX1_plans 109 = .ok (.goto 4, 3) := by decide +kernel
theorem dX1_plans_112 : decode cX1_plans 112 = .ok (.iconst 0, 1) := by decide +kernel
theorem dX1_plans_113 : decode cX1_plans 113 = .ok (.istore 5, 2) := by decide +kernel
theorem dX1_plans_115 : decode cX1_plans 115 = .ok (.iload 5, 2) := by decide +kernel
theorem dX1_plans_117 : decode cX1_plans 117 = .ok (.ifCond .eq 27, 3) := by decide +kernel
theorem dX1_plans_120 : decode cX1_plans 120 = .ok (.iload_n 3, 1) := by decide +kernel
theorem dX1_plans_121 : decode cX1_plans 121 = .ok (.iconst (-1), 1) := by decide +kernel
theorem dX1_plans_122 : decode cX1_plans 122 = .ok (.if_icmp .eq 17, 3) := by decide +kernel
theorem dX1_plans_125 : decode cX1_plans 125 = .ok (.aload_n 0, 1) := by decide +kernel
theorem dX1_plans_126 : decode cX1_plans 126 = .ok (.iload 4, 2) := by decide +kernel
theorem dX1_plans_128 : decode cX1_plans 128 = .ok (.invokevirtual 105, 3) := by decide +kernel
theorem dX1_plans_131 : decode cX1_plans 131 = .ok (.aload_n 0, 1) := by decide +kernel
theorem dX1_plans_132 : decode cX1_plans 132 = .ok (.iload_n 3, 1) := by decide +kernel
theorem dX1_plans_133 : decode cX1_plans 133 = .ok (.invokevirtual 105, 3) := by decide +kernel
theorem dX1_plans_136 : decode cX1_plans 136 = .ok (.if_icmp .ge 8, 3) := by decide +kernel
theorem dX1_plans_139 : decode cX1_plans 139 = .ok (.iload 4, 2) := by decide +kernel
theorem dX1_plans_141 : decode cX1_plans 141 = .ok (.goto 4, 3) := by decide +kernel
theorem dX1_plans_144 : decode cX1_plans 144 = .ok (.iload_n 3, 1) := by decide +kernel
theorem dX1_plans_145 : decode cX1_plans 145 = .ok (.istore_n 3, 1) := by decide +kernel
theorem dX1_plans_146 : decode cX1_plans 146 = .ok (.iinc 4 1, 3) := by decide +kernel
theorem dX1_plans_149 : decode cX1_plans 149 = .ok (.goto (-123), 3) := by decide +kernel
theorem dX1_plans_152 : decode cX1_plans 152 = .ok (.aload_n 0, 1) := by decide +kernel
theorem dX1_plans_153 : decode cX1_plans 153 = .ok (.getfield 46, 3) := by decide +kernel
theorem dX1_plans_156 : decode cX1_plans 156 = .ok (.iload_n 1, 1) := by decide +kernel
theorem dX1_plans_157 : decode cX1_plans 157 = .ok (.iload_n 3, 1) := by decide +kernel
theorem dX1_plans_158 : decode cX1_plans 158 = .ok (.iastore, 1) := by decide +kernel
theorem dX1_plans_159 : decode cX1_plans 159 = .ok (.return_, 1) := by decide +kernel
set_option maxRecDepth 20000 in
theorem ggX1_service_X1_isIn : GoodIn wsX1_service wsX1_isIn := goodIn_r _ [10] (by decide +kernel) (by decide +kernel)
set_option maxRecDepth 20000 in
theorem gX1_service_X1_isIn : GoodIn wsX1_service (va_wsS RX1 60 yX1_isIn wsX1_isIn) := goodIn_app (goodIn_of _ (by decide +kernel)) ggX1_service_X1_isIn
set_option maxRecDepth 20000 in
theorem ggX1_service_X1_plans : GoodIn wsX1_service wsX1_plans := goodIn_r _ [14, 5, 6, 15, 16, 4, 17, 18, 19, 20, 9, 21, 22, 23, 24, 25, 26, 7, 8, 10, 27, 28, 29, 30, 3, 31, 32, 33, 34, 35, 36, 37, 38, 39, 40, 41, 42, 43, 44, 45, 46, 47, 48, 49, 50, 51, 52, 53] (by decide +kernel) (by decide +kernel)
set_option maxRecDepth 20000 in
theorem gX1_service_X1_plans : GoodIn wsX1_service (wsV RX1 98 RX1 yX1_plans wsX1_plans) := goodIn_app (goodIn_of _ (by decide +kernel)) ggX1_service_X1_plans
theorem dX1_service_0 : decode cX1_service 0 = .ok (.aload_n 0, 1) := by decide +kernel
theorem dX1_service_1 : decode cX1_service 1 = .ok (.iload_n 1, 1) := by decide +kernel
theorem dX1_service_2 : decode cX1_service 2 = .ok (.iconst 0, 1) := by decide +kernel
theorem dX1_service_3 : decode cX1_service 3 = .ok (.iconst 3, 1) := by decide +kernel
theorem dX1_service_4 : decode cX1_service 4 = .ok (.invokestatic 60, 3) := by decide +kernel
theorem dX1_service_7 : decode cX1_service 7 = .ok (.ifCond .ne 7, 3) := by decide +kernel
theorem dX1_service_10 : decode cX1_service 10 = .ok (.iconst 1, 1) := by decide +kernel
theorem dX1_service_11 : decode cX1_service 11 = .ok (.goto 22, 3) := by decide +kernel
theorem dX1_service_14 : decode cX1_service 14 = .ok (.iload_n 2, 1) := by decide +kernel
theorem dX1_service_15 : decode cX1_service 15 = .ok (.aload_n 0, 1) := by decide +kernel
theorem dX1_service_16 : decode cX1_service 16 = .ok (.getfield 89, 3) := by decide +kernel
theorem dX1_service_19 : decode cX1_service 19 = .ok (.sipush 1459, 3) := by decide +kernel
theorem dX1_service_22 : decode cX1_service 22 = .ok (.invokestatic 60, 3) := by decide +kernel
theorem dX1_service_25 : decode cX1_service 25 = .ok (.ifCond .eq 7, 3) := by decide +kernel
theorem dX1_service_28 : decode cX1_service 28 = .ok (.iconst 0, 1) := by decide +kernel
theorem dX1_service_29 : decode cX1_service 29 = .ok (.goto 4, 3) := by decide +kernel
theorem dX1_service_32 : decode cX1_service 32 = .ok (.iconst 2, 1) := by decide +kernel
theorem dX1_service_33 : decode cX1_service 33 = .ok (.putfield 53, 3) := by decide +kernel
theorem dX1_service_36 : decode cX1_service 36 = .ok (.aload_n 0, 1) := by decide +kernel
theorem dX1_service_37 : decode cX1_service 37 = .ok (.getfield 53, 3) := by decide +kernel
theorem dX1_service_40 : decode cX1_service 40 = .ok (.ifCond .le 5, 3) := by decide +kernel
theorem dX1_service_43 : decode cX1_service 43 = .ok (.iconst 0, 1) := by decide +kernel
theorem dX1_service_44 : decode cX1_service 44 = .ok (.ireturn, 1) := by decide +kernel
theorem dX1_service_45 : decode cX1_service 45 = .ok (.aload_n 0, 1) := by decide +kernel
theorem dX1_service_46 : decode cX1_service 46 = .ok (.getfield 92, 3) := by decide +kernel
theorem dX1_service_49 : decode cX1_service 49 = .ok (.bipush 40, 2) := by decide +kernel
theorem dX1_service_51 : decode cX1_service 51 = .ok (.if_icmp .ge 7, 3) := by decide +kernel
theorem dX1_service_54 : decode cX1_service 54 = .ok (.iconst 1, 1) := by decide +kernel
theorem dX1_service_55 : decode cX1_service 55 = .ok (.goto 4, 3) := by decide +kernel
theorem dX1_service_58 : decode cX1_service 58 = .ok (.iconst 0, 1) := by decide +kernel
theorem dX1_service_59 : decode cX1_service 59 = .ok (.istore_n 3, 1) := by decide +kernel
theorem dX1_service_60 : decode cX1_service 60 = .ok (.iconst 0, 1) := by decide +kernel
theorem dX1_service_61 : decode cX1_service 61 = .ok (.istore 4, 2) := by decide +kernel
theorem dX1_service_63 : decode cX1_service 63 = .ok (.iload 4, 2) := by decide +kernel
theorem dX1_service_65 : decode cX1_service 65 = .ok (.aload_n 0, 1) := by decide +kernel
theorem dX1_service_66 : decode cX1_service 66 = .ok (.getfield 92, 3) := by decide +kernel
theorem dX1_service_69 : decode cX1_service 69 = .ok (.if_icmp .ge 41, 3) := by decide +kernel
theorem dX1_service_72 : decode cX1_service 72 = .ok (.iload_n 3, 1) := by decide +kernel
theorem dX1_service_73 : decode cX1_service 73 = .ok (.ifCond .eq 29, 3) := by decide +kernel
theorem dX1_service_76 : decode cX1_service 76 = .ok (.aload_n 0, 1) := by decide +kernel
theorem dX1_service_77 : decode cX1_service 77 = .ok (.getfield 40, 3) := by decide +kernel
theorem dX1_service_80 : decode cX1_service 80 = .ok (.iload 4, 2) := by decide +kernel
theorem dX1_service_82 : decode cX1_service 82 = .ok (.iaload, 1) := by decide +kernel
theorem dX1_service_83 : decode cX1_service 83 = .ok (.iload_n 1, 1) := by decide +kernel
theorem dX1_service_84 : decode cX1_service 84 = .ok (.if_icmp .ne 14, 3) := by decide +kernel
theorem dX1_service_87 : decode cX1_service 87 = .ok (.aload_n 0, 1) := by decide +kernel
theorem dX1_service_88 : decode cX1_service 88 = .ok (.getfield 43, 3) := by decide +kernel
theorem dX1_service_91 : decode cX1_service 91 = .ok (.iload 4, 2) := by decide +kernel
theorem dX1_service_93 : decode cX1_service 93 = .ok (.iaload, 1) := by decide +kernel
theorem dX1_service_94 : decode cX1_service 94 = .ok (.iload_n 2, 1) := by decide +kernel
theorem dX1_service_95 : decode cX1_service 95 = .ok (.if_icmp .eq 7, 3) := by decide +kernel
theorem dX1_service_98 : decode cX1_service 98 = .ok (.iconst 1, 1) := by decide +kernel
theorem dX1_service_99 : decode cX1_service 99 = .ok (.goto 4, 3) := by decide +kernel
theorem dX1_service_102 : decode cX1_service 102 = .ok (.iconst 0, 1) := by decide +kernel
theorem dX1_service_103 : decode cX1_service 103 = .ok (.istore_n 3, 1) := by decide +kernel
theorem dX1_service_104 : decode cX1_service 104 = .ok (.iinc 4 1, 3) := by decide +kernel
theorem dX1_service_107 : decode cX1_service 107 = .ok (.goto (-44), 3) := by decide +kernel
theorem dX1_service_110 : decode cX1_service 110 = .ok (.aload_n 0, 1) := by decide +kernel
theorem dX1_service_111 : decode cX1_service 111 = .ok (.iload_n 3, 1) := by decide +kernel
theorem dX1_service_112 : decode cX1_service 112 = .ok (.ifCond .eq 7, 3) := by decide +kernel
theorem dX1_service_115 : decode cX1_service 115 = .ok (.iconst 0, 1) := by decide +kernel
theorem dX1_service_116 : decode cX1_service 116 = .ok (.goto 4, 3) := by decide +kernel
theorem dX1_service_119 : decode cX1_service 119 = .ok (.iconst 3, 1) := by decide +kernel
theorem dX1_service_120 : decode cX1_service 120 = .ok (.putfield 53, 3) := by decide +kernel
theorem dX1_service_123 : decode cX1_service 123 = .ok (.aload_n 0, 1) := by decide +kernel
theorem dX1_service_124 : decode cX1_service 124 = .ok (.getfield 53, 3) := by decide +kernel
theorem dX1_service_127 : decode cX1_service 127 = .ok (.ifCond .le 5, 3) := by decide +kernel
theorem dX1_service_130 : decode cX1_service 130 = .ok (.iconst 0, 1) := by decide +kernel
theorem dX1_service_131 : decode cX1_service 131 = .ok (.ireturn, 1) := by decide +kernel
theorem dX1_service_132 : decode cX1_service 132 = .ok (.aload_n 0, 1) := by decide +kernel
theorem dX1_service_133 : decode cX1_service 133 = .ok (.getfield 40, 3) := by decide +kernel
theorem dX1_service_136 : decode cX1_service 136 = .ok (.aload_n 0, 1) := by decide +kernel
theorem dX1_service_137 : decode cX1_service 137 = .ok (.getfield 92, 3) := by decide +kernel
theorem dX1_service_140 : decode cX1_service 140 = .ok (.iload_n 1, 1) := by decide +kernel
theorem dX1_service_141 : decode cX1_service 141 = .ok (.iastore, 1) := by decide +kernel
theorem dX1_service_142 : decode cX1_service 142 = .ok (.aload_n 0, 1) := by decide +kernel
theorem dX1_service_143 : decode cX1_service 143 = .ok (.getfield 43, 3) := by decide +kernel
theorem dX1_service_146 : decode cX1_service 146 = .ok (.aload_n 0, 1) := by decide +kernel
theorem dX1_service_147 : decode cX1_service 147 = .ok (.getfield 92, 3) := by decide +kernel
theorem dX1_service_150 : decode cX1_service 150 = .ok (.iload_n 2, 1) := by decide +kernel
theorem dX1_service_151 : decode cX1_service 151 = .ok (.iastore, 1) := by decide +kernel
theorem dX1_service_152 : decode cX1_service 152 = .ok (.aload_n 0, 1) := by decide +kernel
theorem dX1_service_153 : decode cX1_service 153 = .ok (.getfield 46, 3) := by decide +kernel
theorem dX1_service_156 : decode cX1_service 156 = .ok (.aload_n 0, 1) := by decide +kernel
theorem dX1_service_157 : decode cX1_service 157 = .ok (.getfield 92, 3) := by decide +kernel
theorem dX1_service_160 : decode cX1_service 160 = .ok (.iconst (-1), 1) := by decide +kernel
theorem dX1_service_161 : decode cX1_service 161 = .ok (.iastore, 1) := by decide +kernel
theorem dX1_service_162 : decode cX1_service 162 = .ok (.aload_n 0, 1) := by decide +kernel
theorem dX1_service_163 : decode cX1_service 163 = .ok (.dup, 1) := by decide +kernel
theorem dX1_service_164 : decode cX1_service 164 = .ok (.getfield 92, 3) := by decide +kernel
theorem dX1_service_167 : decode cX1_service 167 = .ok (.iconst 1, 1) := by decide +kernel
theorem dX1_service_168 : decode cX1_service 168 = .ok (.iadd, 1) := by decide +kernel
theorem dX1_service_169 : decode cX1_service 169 = .ok (.putfield 92, 3) := by decide +kernel
theorem dX1_service_172 : decode cX1_service 172 = .ok (.aload_n 0, 1) := by decide +kernel
theorem dX1_service_173 : decode cX1_service 173 = .ok (.aload_n 0, 1) := by decide +kernel
theorem dX1_service_174 : decode cX1_service 174 = .ok (.getfield 92, 3) := by decide +kernel
theorem dX1_service_177 : decode cX1_service 177 = .ok (.iconst 1, 1) := by decide +kernel
theorem dX1_service_178 : decode cX1_service 178 = .ok (.isub, 1) := by decide +kernel
theorem dX1_service_179 : decode cX1_service 179 = .ok (.invokevirtual 98, 3) := by decide +kernel
theorem dX1_service_182 : decode cX1_service 182 = .ok (.aload_n 0, 1) := by decide +kernel
theorem dX1_service_183 : decode cX1_service 183 = .ok (.getfield 92, 3) := by decide +kernel
theorem dX1_service_186 : decode cX1_service 186 = .ok (.iconst 1, 1) := by decide +kernel
theorem dX1_service_187 : decode cX1_service 187 = .ok (.isub, 1) := by decide +kernel
theorem dX1_service_188 : decode cX1_service 188 = .ok (.ireturn, 1) := by decide +kernel
set_option maxRecDepth 20000 in
theorem ggX1_isService_X1_isIn : GoodIn wsX1_isService wsX1_isIn := goodIn_r _ [5] (by decide +kernel) (by decide +kernel)
set_option maxRecDepth 20000 in
theorem gX1_isService_X1_isIn : GoodIn wsX1_isService (va_wsS RX1 60 yX1_isIn wsX1_isIn) := goodIn_app (goodIn_of _ (by decide +kernel)) ggX1_isService_X1_isIn
theorem dX1_isService_0 : decode cX1_isService 0 = .ok (.iload_n 1, 1) := by decide +kernel
theorem dX1_isService_1 : decode cX1_isService 1 = .ok (.iconst 0, 1) := by decide +kernel
theorem dX1_isService_2 : decode cX1_isService 2 = .ok (.aload_n 0, 1) := by decide +kernel
theorem dX1_isService_3 : decode cX1_isService 3 = .ok (.getfield 92, 3) := by decide +kernel
theorem dX1_isService_6 : decode cX1_isService 6 = .ok (.iconst 1, 1) := by decide +kernel
theorem dX1_isService_7 : decode cX1_isService 7 = .ok (.isub, 1) := by decide +kernel
theorem dX1_isService_8 : decode cX1_isService 8 = .ok (.invokestatic 60, 3) := by decide +kernel
theorem dX1_isService_11 : decode cX1_isService 11 = .ok (.ireturn, 1) := by decide +kernel
set_option maxRecDepth 20000 in
theorem ggX1_plan_X1_isService : GoodIn wsX1_plan wsX1_isService := goodIn_r _ [9, 10, 11, 12, 8, 13, 39, 40, 41, 42, 43, 44, 45, 46, 47, 48, 49, 50, 51, 52, 53, 54, 55, 56, 57] (by decide +kernel) (by decide +kernel)
set_option maxRecDepth 20000 in
theorem gX1_plan_X1_isService : GoodIn wsX1_plan (wsV RX1 108 RX1 yX1_isService wsX1_isService) := goodIn_app (goodIn_of _ (by decide +kernel)) ggX1_plan_X1_isService
set_option maxRecDepth 20000 in
theorem ggX1_plan_X1_plans : GoodIn wsX1_plan wsX1_plans := goodIn_r _ [17, 1, 4, 18, 19, 20, 21, 22, 23, 24, 8, 25, 26, 27, 28, 29, 30, 11, 12, 13, 31, 32, 33, 34, 10, 35, 36, 37, 38, 39, 40, 41, 42, 43, 44, 45, 46, 47, 48, 49, 50, 51, 52, 53, 54, 55, 56, 57] (by decide +kernel) (by decide +kernel)
set_option maxRecDepth 20000 in
theorem gX1_plan_X1_plans : GoodIn wsX1_plan (wsV RX1 98 RX1 yX1_plans wsX1_plans) := goodIn_app (goodIn_of _ (by decide +kernel)) ggX1_plan_X1_plans
theorem dX1_plan_0 : decode cX1_plan 0 = .ok (.aload_n 0, 1) := by decide +kernel
theorem dX1_plan_1 : decode cX1_plan 1 = .ok (.aload_n 0, 1) := by decide +kernel
theorem dX1_plan_2 : decode cX1_plan 2 = .ok (.iload_n 1, 1) := by decide +kernel
theorem dX1_plan_3 : decode cX1_plan 3 = .ok (.invokevirtual 108, 3) := by decide +kernel
theorem dX1_plan_6 : decode cX1_plan 6 = .ok (.ifCond .ne 7, 3) := by decide +kernel
theorem dX1_plan_9 : decode cX1_plan 9 = .ok (.iconst 1, 1) := by decide +kernel
theorem dX1_plan_10 : decode cX1_plan 10 = .ok (.goto 21, 3) := by decide +kernel
theorem dX1_plan_13 : decode cX1_plan 13 = .ok (.aload_n 0, 1) := by decide +kernel
theorem dX1_plan_14 : decode cX1_plan 14 = .ok (.getfield 43, 3) := by decide +kernel
theorem dX1_plan_17 : decode cX1_plan 17 = .ok (.iload_n 1, 1) := by decide +kernel
theorem dX1_plan_18 : decode cX1_plan 18 = .ok (.iaload, 1) := by decide +kernel
theorem dX1_plan_19 : decode cX1_plan 19 = .ok (.aload_n 0, 1) := by decide +kernel
theorem dX1_plan_20 : decode cX1_plan 20 = .ok (.getfield 89, 3) := by decide +kernel
theorem dX1_plan_23 : decode cX1_plan 23 = .ok (.if_icmp .ge 7, 3) := by decide +kernel
theorem dX1_plan_26 : decode cX1_plan 26 = .ok (.iconst 2, 1) := by decide +kernel
theorem dX1_plan_27 : decode cX1_plan 27 = .ok (.goto 4, 3) := by decide +kernel
theorem dX1_plan_30 : decode cX1_plan 30 = .ok (.iconst 0, 1) := by decide +kernel
theorem dX1_plan_31 : decode cX1_plan 31 = .ok (.putfield 53, 3) := by decide +kernel
theorem dX1_plan_34 : decode cX1_plan 34 = .ok (.aload_n 0, 1) := by decide +kernel
theorem dX1_plan_35 : decode cX1_plan 35 = .ok (.getfield 53, 3) := by decide +kernel
theorem dX1_plan_38 : decode cX1_plan 38 = .ok (.ifCond .le 5, 3) := by decide +kernel
theorem dX1_plan_41 : decode cX1_plan 41 = .ok (.iconst 0, 1) := by decide +kernel
theorem dX1_plan_42 : decode cX1_plan 42 = .ok (.ireturn, 1) := by decide +kernel
theorem dX1_plan_43 : decode cX1_plan 43 = .ok (.aload_n 0, 1) := by decide +kernel
theorem dX1_plan_44 : decode cX1_plan 44 = .ok (.iload_n 1, 1) := by decide +kernel
theorem dX1_plan_45 : decode cX1_plan 45 = .ok (.invokevirtual 98, 3) := by decide +kernel
theorem dX1_plan_48 : decode cX1_plan 48 = .ok (.aload_n 0, 1) := by decide +kernel
theorem dX1_plan_49 : decode cX1_plan 49 = .ok (.getfield 46, 3) := by decide +kernel
theorem dX1_plan_52 : decode cX1_plan 52 = .ok (.iload_n 1, 1) := by decide +kernel
theorem dX1_plan_53 : decode cX1_plan 53 = .ok (.iaload, 1) := by decide +kernel
theorem dX1_plan_54 : decode cX1_plan 54 = .ok (.ireturn, 1) := by decide +kernel
set_option maxRecDepth 20000 in
theorem ggX1_hymnOf_X1_isService : GoodIn wsX1_hymnOf wsX1_isService := goodIn_r _ [7, 8, 9, 10, 6, 11, 12, 13, 14, 15, 16, 17, 18, 19, 20, 21, 22, 23, 24, 25, 26, 27, 28, 29, 30] (by decide +kernel) (by decide +kernel)
set_option maxRecDepth 20000 in
theorem gX1_hymnOf_X1_isService : GoodIn wsX1_hymnOf (wsV RX1 108 RX1 yX1_isService wsX1_isService) := goodIn_app (goodIn_of _ (by decide +kernel)) ggX1_hymnOf_X1_isService
theorem dX1_hymnOf_0 : decode cX1_hymnOf 0 = .ok (.aload_n 0, 1) := by decide +kernel
theorem dX1_hymnOf_1 : decode cX1_hymnOf 1 = .ok (.aload_n 0, 1) := by decide +kernel
theorem dX1_hymnOf_2 : decode cX1_hymnOf 2 = .ok (.iload_n 1, 1) := by decide +kernel
theorem dX1_hymnOf_3 : decode cX1_hymnOf 3 = .ok (.invokevirtual 108, 3) := by decide +kernel
theorem dX1_hymnOf_6 : decode cX1_hymnOf 6 = .ok (.ifCond .eq 7, 3) := by decide +kernel
theorem dX1_hymnOf_9 : decode cX1_hymnOf 9 = .ok (.iconst 0, 1) := by decide +kernel
theorem dX1_hymnOf_10 : decode cX1_hymnOf 10 = .ok (.goto 4, 3) := by decide +kernel
theorem dX1_hymnOf_13 : decode cX1_hymnOf 13 = .ok (.iconst 1, 1) := by decide +kernel
theorem dX1_hymnOf_14 : decode cX1_hymnOf 14 = .ok (.putfield 53, 3) := by decide +kernel
theorem dX1_hymnOf_17 : decode cX1_hymnOf 17 = .ok (.aload_n 0, 1) := by decide +kernel
theorem dX1_hymnOf_18 : decode cX1_hymnOf 18 = .ok (.getfield 53, 3) := by decide +kernel
theorem dX1_hymnOf_21 : decode cX1_hymnOf 21 = .ok (.ifCond .le 7, 3) := by decide +kernel
theorem dX1_hymnOf_24 : decode cX1_hymnOf 24 = .ok (.iconst 0, 1) := by decide +kernel
theorem dX1_hymnOf_25 : decode cX1_hymnOf 25 = .ok (.goto 9, 3) := by decide +kernel
theorem dX1_hymnOf_28 : decode cX1_hymnOf 28 = .ok (.aload_n 0, 1) := by decide +kernel
theorem dX1_hymnOf_29 : decode cX1_hymnOf 29 = .ok (.getfield 46, 3) := by decide +kernel
theorem dX1_hymnOf_32 : decode cX1_hymnOf 32 = .ok (.iload_n 1, 1) := by decide +kernel
theorem dX1_hymnOf_33 : decode cX1_hymnOf 33 = .ok (.iaload, 1) := by decide +kernel
theorem dX1_hymnOf_34 : decode cX1_hymnOf 34 = .ok (.ireturn, 1) := by decide +kernel
theorem dX1_silent_0 : decode cX1_silent 0 = .ok (.aload_n 0, 1) := by decide +kernel
theorem dX1_silent_1 : decode cX1_silent 1 = .ok (.iconst 0, 1) := by decide +kernel
theorem dX1_silent_2 : decode cX1_silent 2 = .ok (.putfield 53, 3) := by decide +kernel
theorem dX1_silent_5 : decode cX1_silent 5 = .ok (.iconst 0, 1) := by decide +kernel
theorem dX1_silent_6 : decode cX1_silent 6 = .ok (.istore_n 1, 1) := by decide +kernel
theorem dX1_silent_7 : decode cX1_silent 7 = .ok (.iconst 0, 1) := by decide +kernel
theorem dX1_silent_8 : decode cX1_silent 8 = .ok (.istore_n 2, 1) := by decide +kernel
theorem dX1_silent_9 : decode cX1_silent 9 = .ok (.iload_n 2, 1) := by decide +kernel
theorem dX1_silent_10 : decode cX1_silent 10 = .ok (.aload_n 0, 1) := by decide +kernel
theorem dX1_silent_11 : decode cX1_silent 11 = .ok (.getfield 92, 3) := by decide +kernel
theorem dX1_silent_14 : decode cX1_silent 14 = .ok (.if_icmp .ge 40, 3) := by decide +kernel
theorem dX1_silent_17 : decode cX1_silent 17 = .ok (.iload_n 1, 1) := by decide +kernel
theorem dX1_silent_18 : decode cX1_silent 18 = .ok (.aload_n 0, 1) := by decide +kernel
theorem dX1_silent_19 : decode cX1_silent 19 = .ok (.getfield 43, 3) := by decide +kernel
theorem dX1_silent_22 : decode cX1_silent 22 = .ok (.iload_n 2, 1) := by decide +kernel
theorem dX1_silent_23 : decode cX1_silent 23 = .ok (.iaload, 1) := by decide +kernel
theorem dX1_silent_24 : decode cX1_silent 24 = .ok (.aload_n 0, 1) := by decide +kernel
theorem dX1_silent_25 : decode cX1_silent 25 = .ok (.getfield 89, 3) := by decide +kernel
theorem dX1_silent_28 : decode cX1_silent 28 = .ok (.if_icmp .gt 17, 3) := by decide +kernel
theorem dX1_silent_31 : decode cX1_silent 31 = .ok (.aload_n 0, 1) := by decide +kernel
theorem dX1_silent_32 : decode cX1_silent 32 = .ok (.getfield 46, 3) := by decide +kernel
theorem dX1_silent_35 : decode cX1_silent 35 = .ok (.iload_n 2, 1) := by decide +kernel
theorem dX1_silent_36 : decode cX1_silent 36 = .ok (.iaload, 1) := by decide +kernel
theorem dX1_silent_37 : decode cX1_silent 37 = .ok (.iconst (-1), 1) := by decide +kernel
theorem dX1_silent_38 : decode cX1_silent 38 = .ok (.if_icmp .ne 7, 3) := by decide +kernel
theorem dX1_silent_41 : decode cX1_silent 41 = .ok (.iconst 1, 1) := by decide +kernel
theorem dX1_silent_42 : decode cX1_silent 42 = .ok (.goto 4, 3) := by decide +kernel
theorem dX1_silent_45 : decode cX1_silent 45 = .ok (.iconst 0, 1) := by decide +kernel
theorem dX1_silent_46 : decode cX1_silent 46 = .ok (.iadd, 1) := by decide +kernel
theorem dX1_silent_47 : decode cX1_silent 47 = .ok (.istore_n 1, 1) := by decide +kernel
theorem dX1_silent_48 : decode cX1_silent 48 = .ok (.iinc 2 1, 3) := by decide +kernel
theorem dX1_silent_51 : decode cX1_silent 51 = .ok (.goto (-42), 3) := by decide +kernel
theorem dX1_silent_54 : decode cX1_silent 54 = .ok (.iload_n 1, 1) := by decide +kernel
theorem dX1_silent_55 : decode cX1_silent 55 = .ok (.ireturn, 1) := by decide +kernel
theorem dX1_sungOf_0 : decode cX1_sungOf 0 = .ok (.iconst 0, 1) := by decide +kernel
theorem dX1_sungOf_1 : decode cX1_sungOf 1 = .ok (.istore_n 3, 1) := by decide +kernel
theorem dX1_sungOf_2 : decode cX1_sungOf 2 = .ok (.iconst 0, 1) := by decide +kernel
theorem dX1_sungOf_3 : decode cX1_sungOf 3 = .ok (.istore 4, 2) := by decide +kernel
theorem dX1_sungOf_5 : decode cX1_sungOf 5 = .ok (.iload 4, 2) := by decide +kernel
theorem dX1_sungOf_7 : decode cX1_sungOf 7 = .ok (.aload_n 0, 1) := by decide +kernel
theorem dX1_sungOf_8 : decode cX1_sungOf 8 = .ok (.getfield 92, 3) := by decide +kernel
theorem dX1_sungOf_11 : decode cX1_sungOf 11 = .ok (.if_icmp .ge 100, 3) := by decide +kernel
theorem dX1_sungOf_14 : decode cX1_sungOf 14 = .ok (.aload_n 0, 1) := by decide +kernel
theorem dX1_sungOf_15 : decode cX1_sungOf 15 = .ok (.getfield 43, 3) := by decide +kernel
theorem dX1_sungOf_18 : decode cX1_sungOf 18 = .ok (.iload 4, 2) := by decide +kernel
theorem dX1_sungOf_20 : decode cX1_sungOf 20 = .ok (.iaload, 1) := by decide +kernel
theorem dX1_sungOf_21 : decode cX1_sungOf 21 = .ok (.aload_n 0, 1) := by decide +kernel
theorem dX1_sungOf_22 : decode cX1_sungOf 22 = .ok (.getfield 89, 3) := by decide +kernel
theorem dX1_sungOf_25 : decode cX1_sungOf 25 = .ok (.if_icmp .gt 33, 3) := by decide +kernel
theorem dX1_sungOf_28 : decode cX1_sungOf 28 = .ok (.aload_n 0, 1) := by decide +kernel
theorem dX1_sungOf_29 : decode cX1_sungOf 29 = .ok (.getfield 43, 3) := by decide +kernel
theorem dX1_sungOf_32 : decode cX1_sungOf 32 = .ok (.iload 4, 2) := by decide +kernel
theorem dX1_sungOf_34 : decode cX1_sungOf 34 = .ok (.iaload, 1) := by decide +kernel
theorem dX1_sungOf_35 : decode cX1_sungOf 35 = .ok (.sipush 365, 3) := by decide +kernel
theorem dX1_sungOf_38 : decode cX1_sungOf 38 = .ok (.idiv, 1) := by decide +kernel
theorem dX1_sungOf_39 : decode cX1_sungOf 39 = .ok (.iload_n 2, 1) := by decide +kernel
theorem dX1_sungOf_40 : decode cX1_sungOf 40 = .ok (.if_icmp .ne 18, 3) := by decide +kernel
theorem dX1_sungOf_43 : decode cX1_sungOf 43 = .ok (.aload_n 0, 1) := by decide +kernel
theorem dX1_sungOf_44 : decode cX1_sungOf 44 = .ok (.getfield 46, 3) := by decide +kernel
theorem dX1_sungOf_47 : decode cX1_sungOf 47 = .ok (.iload 4, 2) := by decide +kernel
theorem dX1_sungOf_49 : decode cX1_sungOf 49 = .ok (.iaload, 1) := by decide +kernel
theorem dX1_sungOf_50 : decode cX1_sungOf 50 = .ok (.iconst (-1), 1) := by decide +kernel
theorem dX1_sungOf_51 : decode cX1_sungOf 51 = .ok (.if_icmp .eq 7, 3) := by decide +kernel
theorem dX1_sungOf_54 : decode cX1_sungOf 54 = .ok (.iconst 1, 1) := by decide +kernel
theorem dX1_sungOf_55 : decode cX1_sungOf 55 = .ok (.goto 4, 3) := by decide +kernel
theorem dX1_sungOf_58 : decode cX1_sungOf 58 = .ok (.iconst 0, 1) := by decide +kernel
theorem dX1_sungOf_59 : decode cX1_sungOf 59 = .ok (.istore 5, 2) := by decide +kernel
theorem dX1_sungOf_61 : decode cX1_sungOf 61 = .ok (.iload_n 3, 1) := by decide +kernel
theorem dX1_sungOf_62 : decode cX1_sungOf 62 = .ok (.iload 5, 2) := by decide +kernel
theorem dX1_sungOf_64 : decode cX1_sungOf 64 = .ok (.ifCond .eq 38, 3) := by decide +kernel
theorem dX1_sungOf_67 : decode cX1_sungOf 67 = .ok (.aload_n 0, 1) := by decide +kernel
theorem dX1_sungOf_68 : decode cX1_sungOf 68 = .ok (.getfield 7, 3) := by decide +kernel
theorem dX1_sungOf_71 : decode cX1_sungOf 71 = .ok (.aload_n 0, 1) := by decide +kernel
theorem dX1_sungOf_72 : decode cX1_sungOf 72 = .ok (.getfield 46, 3) := by decide +kernel
theorem dX1_sungOf_75 : decode cX1_sungOf 75 = .ok (.iload 4, 2) := by decide +kernel
theorem dX1_sungOf_77 : decode cX1_sungOf 77 = .ok (.iaload, 1) := by decide +kernel
theorem dX1_sungOf_78 : decode cX1_sungOf 78 = .ok (.iconst (-1), 1) := by decide +kernel
theorem dX1_sungOf_79 : decode cX1_sungOf 79 = .ok (.if_icmp .ne 7, 3) := by decide +kernel
theorem dX1_sungOf_82 : decode cX1_sungOf 82 = .ok (.iconst 0, 1) := by decide +kernel
theorem dX1_sungOf_83 : decode cX1_sungOf 83 = .ok (.goto 10, 3) := by decide +kernel
theorem dX1_sungOf_86 : decode cX1_sungOf 86 = .ok (.aload_n 0, 1) := by decide +kernel
theorem dX1_sungOf_87 : decode cX1_sungOf 87 = .ok (.getfield 46, 3) := by decide +kernel
theorem dX1_sungOf_90 : decode cX1_sungOf 90 = .ok (.iload 4, 2) := by decide +kernel
theorem dX1_sungOf_92 : decode cX1_sungOf 92 = .ok (.iaload, 1) := by decide +kernel
theorem dX1_sungOf_93 : decode cX1_sungOf 93 = .ok (.iaload, 1) := by decide +kernel
theorem dX1_sungOf_94 : decode cX1_sungOf 94 = .ok (.iload_n 1, 1) := by decide +kernel
theorem dX1_sungOf_95 : decode cX1_sungOf 95 = .ok (.if_icmp .ne 7, 3) := by decide +kernel
theorem dX1_sungOf_98 : decode cX1_sungOf 98 = .ok (.iconst 1, 1) := by decide +kernel
theorem dX1_sungOf_99 : decode cX1_sungOf 99 = .ok (.goto 4, 3) := by decide +kernel
theorem dX1_sungOf_102 : decode cX1_sungOf 102 = .ok (.iconst 0, 1) := by decide +kernel
theorem dX1_sungOf_103 : decode cX1_sungOf 103 = .ok (.iadd, 1) := by decide +kernel
theorem dX1_sungOf_104 : decode cX1_sungOf 104 = .ok (.istore_n 3, 1) := by decide +kernel
theorem dX1_sungOf_105 : decode cX1_sungOf 105 = .ok (.iinc 4 1, 3) := by decide +kernel
theorem dX1_sungOf_108 : decode cX1_sungOf 108 = .ok (.goto (-103), 3) := by decide +kernel
theorem dX1_sungOf_111 : decode cX1_sungOf 111 = .ok (.iload_n 3, 1) := by decide +kernel
theorem dX1_sungOf_112 : decode cX1_sungOf 112 = .ok (.ireturn, 1) := by decide +kernel
set_option maxRecDepth 20000 in
theorem ggX1_sung_X1_isIn : GoodIn wsX1_sung wsX1_isIn := goodIn_r _ [5] (by decide +kernel) (by decide +kernel)
set_option maxRecDepth 20000 in
theorem gX1_sung_X1_isIn : GoodIn wsX1_sung (va_wsS RX1 60 yX1_isIn wsX1_isIn) := goodIn_app (goodIn_of _ (by decide +kernel)) ggX1_sung_X1_isIn
set_option maxRecDepth 20000 in
theorem ggX1_sung_X1_sungOf : GoodIn wsX1_sung wsX1_sungOf := goodIn_r _ [9, 10, 11, 12, 13, 14, 15, 16, 17, 18, 19, 20, 21, 22, 23, 24, 25, 26, 27, 28, 29, 30, 31, 32, 33] (by decide +kernel) (by decide +kernel)
set_option maxRecDepth 20000 in
theorem gX1_sung_X1_sungOf : GoodIn wsX1_sung (wsV RX1 111 RX1 yX1_sungOf wsX1_sungOf) := goodIn_app (goodIn_of _ (by decide +kernel)) ggX1_sung_X1_sungOf
theorem dX1_sung_0 : decode cX1_sung 0 = .ok (.aload_n 0, 1) := by decide +kernel
theorem dX1_sung_1 : decode cX1_sung 1 = .ok (.iload_n 1, 1) := by decide +kernel
theorem dX1_sung_2 : decode cX1_sung 2 = .ok (.iconst 0, 1) := by decide +kernel
theorem dX1_sung_3 : decode cX1_sung 3 = .ok (.iconst 4, 1) := by decide +kernel
theorem dX1_sung_4 : decode cX1_sung 4 = .ok (.invokestatic 60, 3) := by decide +kernel
theorem dX1_sung_7 : decode cX1_sung 7 = .ok (.ifCond .eq 16, 3) := by decide +kernel
theorem dX1_sung_10 : decode cX1_sung 10 = .ok (.iload_n 2, 1) := by decide +kernel
theorem dX1_sung_11 : decode cX1_sung 11 = .ok (.iconst 0, 1) := by decide +kernel
theorem dX1_sung_12 : decode cX1_sung 12 = .ok (.iconst 3, 1) := by decide +kernel
theorem dX1_sung_13 : decode cX1_sung 13 = .ok (.invokestatic 60, 3) := by decide +kernel
theorem dX1_sung_16 : decode cX1_sung 16 = .ok (.ifCond .eq 7, 3) := by decide +kernel
theorem dX1_sung_19 : decode cX1_sung 19 = .ok (.iconst 0, 1) := by decide +kernel
theorem dX1_sung_20 : decode cX1_sung 20 = .ok (.goto 4, 3) := by decide +kernel
theorem dX1_sung_23 : decode cX1_sung 23 = .ok (.iconst 1, 1) := by decide +kernel
theorem dX1_sung_24 : decode cX1_sung 24 = .ok (.putfield 53, 3) := by decide +kernel
theorem dX1_sung_27 : decode cX1_sung 27 = .ok (.aload_n 0, 1) := by decide +kernel
theorem dX1_sung_28 : decode cX1_sung 28 = .ok (.getfield 53, 3) := by decide +kernel
theorem dX1_sung_31 : decode cX1_sung 31 = .ok (.ifCond .le 7, 3) := by decide +kernel
theorem dX1_sung_34 : decode cX1_sung 34 = .ok (.iconst 0, 1) := by decide +kernel
theorem dX1_sung_35 : decode cX1_sung 35 = .ok (.goto 9, 3) := by decide +kernel
theorem dX1_sung_38 : decode cX1_sung 38 = .ok (.aload_n 0, 1) := by decide +kernel
theorem dX1_sung_39 : decode cX1_sung 39 = .ok (.iload_n 1, 1) := by decide +kernel
theorem dX1_sung_40 : decode cX1_sung 40 = .ok (.iload_n 2, 1) := by decide +kernel
theorem dX1_sung_41 : decode cX1_sung 41 = .ok (.invokevirtual 111, 3) := by decide +kernel
theorem dX1_sung_44 : decode cX1_sung 44 = .ok (.ireturn, 1) := by decide +kernel
set_option maxRecDepth 20000 in
theorem ggX1_sungByHymns_X1_isIn : GoodIn wsX1_sungByHymns wsX1_isIn := goodIn_r _ [5] (by decide +kernel) (by decide +kernel)
set_option maxRecDepth 20000 in
theorem gX1_sungByHymns_X1_isIn : GoodIn wsX1_sungByHymns (va_wsS RX1 60 yX1_isIn wsX1_isIn) := goodIn_app (goodIn_of _ (by decide +kernel)) ggX1_sungByHymns_X1_isIn
set_option maxRecDepth 20000 in
theorem ggX1_sungByHymns_X1_sungOf : GoodIn wsX1_sungByHymns wsX1_sungOf := goodIn_r _ [9, 10, 11, 12, 13, 14, 15, 16, 17, 18, 19, 20, 21, 22, 23, 24, 25, 26, 27, 28, 29, 30, 31, 32, 33] (by decide +kernel) (by decide +kernel)
set_option maxRecDepth 20000 in
theorem gX1_sungByHymns_X1_sungOf : GoodIn wsX1_sungByHymns (wsV RX1 111 RX1 yX1_sungOf wsX1_sungOf) := goodIn_app (goodIn_of _ (by decide +kernel)) ggX1_sungByHymns_X1_sungOf
theorem dX1_sungByHymns_0 : decode cX1_sungByHymns 0 = .ok (.aload_n 0, 1) := by decide +kernel
theorem dX1_sungByHymns_1 : decode cX1_sungByHymns 1 = .ok (.iload_n 1, 1) := by decide +kernel
theorem dX1_sungByHymns_2 : decode cX1_sungByHymns 2 = .ok (.iconst 0, 1) := by decide +kernel
theorem dX1_sungByHymns_3 : decode cX1_sungByHymns 3 = .ok (.iconst 4, 1) := by decide +kernel
theorem dX1_sungByHymns_4 : decode cX1_sungByHymns 4 = .ok (.invokestatic 60, 3) := by decide +kernel
theorem dX1_sungByHymns_7 : decode cX1_sungByHymns 7 = .ok (.ifCond .eq 16, 3) := by decide +kernel
theorem dX1_sungByHymns_10 : decode cX1_sungByHymns 10 = .ok (.iload_n 2, 1) := by decide +kernel
theorem dX1_sungByHymns_11 : decode cX1_sungByHymns 11 = .ok (.iconst 0, 1) := by decide +kernel
theorem dX1_sungByHymns_12 : decode cX1_sungByHymns 12 = .ok (.iconst 3, 1) := by decide +kernel
theorem dX1_sungByHymns_13 : decode cX1_sungByHymns 13 = .ok (.invokestatic 60, 3) := by decide +kernel
theorem dX1_sungByHymns_16 : decode cX1_sungByHymns 16 = .ok (.ifCond .eq 7, 3) := by decide +kernel
theorem dX1_sungByHymns_19 : decode cX1_sungByHymns 19 = .ok (.iconst 0, 1) := by decide +kernel
theorem dX1_sungByHymns_20 : decode cX1_sungByHymns 20 = .ok (.goto 4, 3) := by decide +kernel
theorem dX1_sungByHymns_23 : decode cX1_sungByHymns 23 = .ok (.iconst 1, 1) := by decide +kernel
theorem dX1_sungByHymns_24 : decode cX1_sungByHymns 24 = .ok (.putfield 53, 3) := by decide +kernel
theorem dX1_sungByHymns_27 : decode cX1_sungByHymns 27 = .ok (.aload_n 0, 1) := by decide +kernel
theorem dX1_sungByHymns_28 : decode cX1_sungByHymns 28 = .ok (.getfield 53, 3) := by decide +kernel
theorem dX1_sungByHymns_31 : decode cX1_sungByHymns 31 = .ok (.ifCond .le 7, 3) := by decide +kernel
theorem dX1_sungByHymns_34 : decode cX1_sungByHymns 34 = .ok (.iconst 0, 1) := by decide +kernel
theorem dX1_sungByHymns_35 : decode cX1_sungByHymns 35 = .ok (.goto 9, 3) := by decide +kernel
theorem dX1_sungByHymns_38 : decode cX1_sungByHymns 38 = .ok (.aload_n 0, 1) := by decide +kernel
theorem dX1_sungByHymns_39 : decode cX1_sungByHymns 39 = .ok (.iload_n 1, 1) := by decide +kernel
theorem dX1_sungByHymns_40 : decode cX1_sungByHymns 40 = .ok (.iload_n 2, 1) := by decide +kernel
theorem dX1_sungByHymns_41 : decode cX1_sungByHymns 41 = .ok (.invokevirtual 111, 3) := by decide +kernel
theorem dX1_sungByHymns_44 : decode cX1_sungByHymns 44 = .ok (.ireturn, 1) := by decide +kernel
set_option maxRecDepth 20000 in
theorem ggX1_pass_X1_isIn : GoodIn wsX1_pass wsX1_isIn := goodIn_r _ [6] (by decide +kernel) (by decide +kernel)
set_option maxRecDepth 20000 in
theorem gX1_pass_X1_isIn : GoodIn wsX1_pass (va_wsS RX1 60 yX1_isIn wsX1_isIn) := goodIn_app (goodIn_of _ (by decide +kernel)) ggX1_pass_X1_isIn
theorem dX1_pass_0 : decode cX1_pass 0 = .ok (.aload_n 0, 1) := by decide +kernel
theorem dX1_pass_1 : decode cX1_pass 1 = .ok (.iload_n 1, 1) := by decide +kernel
theorem dX1_pass_2 : decode cX1_pass 2 = .ok (.iconst 1, 1) := by decide +kernel
theorem dX1_pass_3 : decode cX1_pass 3 = .ok (.sipush 200, 3) := by decide +kernel
theorem dX1_pass_6 : decode cX1_pass 6 = .ok (.invokestatic 60, 3) := by decide +kernel
theorem dX1_pass_9 : decode cX1_pass 9 = .ok (.ifCond .ne 7, 3) := by decide +kernel
theorem dX1_pass_12 : decode cX1_pass 12 = .ok (.iconst 1, 1) := by decide +kernel
theorem dX1_pass_13 : decode cX1_pass 13 = .ok (.goto 20, 3) := by decide +kernel
theorem dX1_pass_16 : decode cX1_pass 16 = .ok (.aload_n 0, 1) := by decide +kernel
theorem dX1_pass_17 : decode cX1_pass 17 = .ok (.getfield 89, 3) := by decide +kernel
theorem dX1_pass_20 : decode cX1_pass 20 = .ok (.iload_n 1, 1) := by decide +kernel
theorem dX1_pass_21 : decode cX1_pass 21 = .ok (.iadd, 1) := by decide +kernel
theorem dX1_pass_22 : decode cX1_pass 22 = .ok (.sipush 1460, 3) := by decide +kernel
theorem dX1_pass_25 : decode cX1_pass 25 = .ok (.if_icmp .lt 7, 3) := by decide +kernel
theorem dX1_pass_28 : decode cX1_pass 28 = .ok (.iconst 2, 1) := by decide +kernel
theorem dX1_pass_29 : decode cX1_pass 29 = .ok (.goto 4, 3) := by decide +kernel
theorem dX1_pass_32 : decode cX1_pass 32 = .ok (.iconst 0, 1) := by decide +kernel
theorem dX1_pass_33 : decode cX1_pass 33 = .ok (.putfield 53, 3) := by decide +kernel
theorem dX1_pass_36 : decode cX1_pass 36 = .ok (.aload_n 0, 1) := by decide +kernel
theorem dX1_pass_37 : decode cX1_pass 37 = .ok (.dup, 1) := by decide +kernel
theorem dX1_pass_38 : decode cX1_pass 38 = .ok (.getfield 89, 3) := by decide +kernel
theorem dX1_pass_41 : decode cX1_pass 41 = .ok (.aload_n 0, 1) := by decide +kernel
theorem dX1_pass_42 : decode cX1_pass 42 = .ok (.getfield 53, 3) := by decide +kernel
theorem dX1_pass_45 : decode cX1_pass 45 = .ok (.ifCond .le 7, 3) := by decide +kernel
theorem dX1_pass_48 : decode cX1_pass 48 = .ok (.iconst 0, 1) := by decide +kernel
theorem dX1_pass_49 : decode cX1_pass 49 = .ok (.goto 4, 3) := by decide +kernel
theorem dX1_pass_52 : decode cX1_pass 52 = .ok (.iload_n 1, 1) := by decide +kernel
theorem dX1_pass_53 : decode cX1_pass 53 = .ok (.iadd, 1) := by decide +kernel
theorem dX1_pass_54 : decode cX1_pass 54 = .ok (.putfield 89, 3) := by decide +kernel
theorem dX1_pass_57 : decode cX1_pass 57 = .ok (.aload_n 0, 1) := by decide +kernel
theorem dX1_pass_58 : decode cX1_pass 58 = .ok (.getfield 89, 3) := by decide +kernel
theorem dX1_pass_61 : decode cX1_pass 61 = .ok (.ireturn, 1) := by decide +kernel

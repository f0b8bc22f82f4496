theorem dX0_init_0 : decode cX0_init 0 = .ok (.aload_n 0, 1) := by decide +kernel
theorem dX0_init_1 : decode cX0_init 1 = .ok (.invokespecial 1, 3) := by decide +kernel
theorem dX0_init_4 : decode cX0_init 4 = .ok (.aload_n 0, 1) := by decide +kernel
theorem dX0_init_5 : decode cX0_init 5 = .ok (.bipush 16, 2) := by decide +kernel
theorem dX0_init_7 : decode cX0_init 7 = .ok (.newarray .int, 2) := by decide +kernel
theorem dX0_init_9 : decode cX0_init 9 = .ok (.putfield 9, 3) := by decide +kernel
theorem dX0_init_12 : decode cX0_init 12 = .ok (.aload_n 0, 1) := by decide +kernel
theorem dX0_init_13 : decode cX0_init 13 = .ok (.bipush 16, 2) := by decide +kernel
theorem dX0_init_15 : decode cX0_init 15 = .ok (.newarray .int, 2) := by decide +kernel
theorem dX0_init_17 : decode cX0_init 17 = .ok (.putfield 13, 3) := by decide +kernel
theorem dX0_init_20 : decode cX0_init 20 = .ok (.aload_n 0, 1) := by decide +kernel
theorem dX0_init_21 : decode cX0_init 21 = .ok (.bipush 16, 2) := by decide +kernel
theorem dX0_init_23 : decode cX0_init 23 = .ok (.newarray .int, 2) := by decide +kernel
theorem dX0_init_25 : decode cX0_init 25 = .ok (.putfield 16, 3) := by decide +kernel
theorem dX0_init_28 : decode cX0_init 28 = .ok (.aload_n 0, 1) := by decide +kernel
theorem dX0_init_29 : decode cX0_init 29 = .ok (.bipush 16, 2) := by decide +kernel
theorem dX0_init_31 : decode cX0_init 31 = .ok (.newarray .int, 2) := by decide +kernel
theorem dX0_init_33 : decode cX0_init 33 = .ok (.putfield 19, 3) := by decide +kernel
theorem dX0_init_36 : decode cX0_init 36 = .ok (.aload_n 0, 1) := by decide +kernel
theorem dX0_init_37 : decode cX0_init 37 = .ok (.bipush 16, 2) := by decide +kernel
theorem dX0_init_39 : decode cX0_init 39 = .ok (.newarray .int, 2) := by decide +kernel
theorem dX0_init_41 : decode cX0_init 41 = .ok (.putfield 22, 3) := by decide +kernel
theorem dX0_init_44 : decode cX0_init 44 = .ok (.aload_n 0, 1) := by decide +kernel
theorem dX0_init_45 : decode cX0_init 45 = .ok (.bipush 16, 2) := by decide +kernel
theorem dX0_init_47 : decode cX0_init 47 = .ok (.newarray .int, 2) := by decide +kernel
theorem dX0_init_49 : decode cX0_init 49 = .ok (.putfield 25, 3) := by decide +kernel
theorem dX0_init_52 : decode cX0_init 52 = .ok (.aload_n 0, 1) := by decide +kernel
theorem dX0_init_53 : decode cX0_init 53 = .ok (.bipush 64, 2) := by decide +kernel
theorem dX0_init_55 : decode cX0_init 55 = .ok (.newarray .int, 2) := by decide +kernel
theorem dX0_init_57 : decode cX0_init 57 = .ok (.putfield 28, 3) := by decide +kernel
theorem dX0_init_60 : decode cX0_init 60 = .ok (.aload_n 0, 1) := by decide +kernel
theorem dX0_init_61 : decode cX0_init 61 = .ok (.bipush 40, 2) := by decide +kernel
theorem dX0_init_63 : decode cX0_init 63 = .ok (.newarray .int, 2) := by decide +kernel
theorem dX0_init_65 : decode cX0_init 65 = .ok (.putfield 31, 3) := by decide +kernel
theorem dX0_init_68 : decode cX0_init 68 = .ok (.aload_n 0, 1) := by decide +kernel
theorem dX0_init_69 : decode cX0_init 69 = .ok (.bipush 40, 2) := by decide +kernel
theorem dX0_init_71 : decode cX0_init 71 = .ok (.newarray .int, 2) := by decide +kernel
theorem dX0_init_73 : decode cX0_init 73 = .ok (.putfield 34, 3) := by decide +kernel
theorem dX0_init_76 : decode cX0_init 76 = .ok (.aload_n 0, 1) := by decide +kernel
theorem dX0_init_77 : decode cX0_init 77 = .ok (.bipush 40, 2) := by decide +kernel
theorem dX0_init_79 : decode cX0_init 79 = .ok (.newarray .int, 2) := by decide +kernel
theorem dX0_init_81 : decode cX0_init 81 = .ok (.putfield 37, 3) := by decide +kernel
theorem dX0_init_84 : decode cX0_init 84 = .ok (.aload_n 0, 1) := by decide +kernel
theorem dX0_init_85 : decode cX0_init 85 = .ok (.bipush 40, 2) := by decide +kernel
theorem dX0_init_87 : decode cX0_init 87 = .ok (.newarray .int, 2) := by decide +kernel
theorem dX0_init_89 : decode cX0_init 89 = .ok (.putfield 40, 3) := by decide +kernel
theorem dX0_init_92 : decode cX0_init 92 = .ok (.aload_n 0, 1) := by decide +kernel
theorem dX0_init_93 : decode cX0_init 93 = .ok (.bipush 40, 2) := by decide +kernel
theorem dX0_init_95 : decode cX0_init 95 = .ok (.newarray .int, 2) := by decide +kernel
theorem dX0_init_97 : decode cX0_init 97 = .ok (.putfield 43, 3) := by decide +kernel
theorem dX0_init_100 : decode cX0_init 100 = .ok (.aload_n 0, 1) := by decide +kernel
theorem dX0_init_101 : decode cX0_init 101 = .ok (.bipush 40, 2) := by decide +kernel
theorem dX0_init_103 : decode cX0_init 103 = .ok (.newarray .int, 2) := by decide +kernel
theorem dX0_init_105 : decode cX0_init 105 = .ok (.putfield 46, 3) := by decide +kernel
theorem dX0_init_108 : decode cX0_init 108 = .ok (.aload_n 0, 1) := by decide +kernel
theorem dX0_init_109 : decode cX0_init 109 = .ok (.bipush 40, 2) := by decide +kernel
theorem dX0_init_111 : decode cX0_init 111 = .ok (.newarray .int, 2) := by decide +kernel
theorem dX0_init_113 : decode cX0_init 113 = .ok (.putfield 49, 3) := by decide +kernel
theorem dX0_init_116 : decode cX0_init 116 = .ok (.return_, 1) := by decide +kernel
set_option maxRecDepth 20000 in
theorem ggX0_hymn_X0_isOwner : GoodIn wsX0_hymn wsX0_isOwner := goodIn_r _ [10, 11, 12, 9, 13] (by decide +kernel) (by decide +kernel)
set_option maxRecDepth 20000 in
theorem gX0_hymn_X0_isOwner : GoodIn wsX0_hymn (va_wsS RX0 52 yX0_isOwner wsX0_isOwner) := goodIn_app (goodIn_of _ (by decide +kernel)) ggX0_hymn_X0_isOwner
set_option maxRecDepth 20000 in
theorem ggX0_hymn_X0_needIndex : GoodIn wsX0_hymn wsX0_needIndex := goodIn_ca (goodIn_r _ [16, 17, 18] (by decide +kernel) (by decide +kernel)) (goodIn_sub (fun _ h => List.mem_cons_of_mem _ (List.mem_append_left _ (List.mem_append_left _ (List.mem_append_right _ h)))) (by decide +kernel))
set_option maxRecDepth 20000 in
theorem gX0_hymn_X0_needIndex : GoodIn wsX0_hymn (va_wsS RX0 56 yX0_needIndex wsX0_needIndex) := goodIn_app (goodIn_of _ (by decide +kernel)) ggX0_hymn_X0_needIndex
set_option maxRecDepth 20000 in
theorem ggX0_hymn_X0_isBetween : GoodIn wsX0_hymn wsX0_isBetween := goodIn_r _ [13] (by decide +kernel) (by decide +kernel)
set_option maxRecDepth 20000 in
theorem gX0_hymn_X0_isBetween : GoodIn wsX0_hymn (va_wsS RX0 60 yX0_isBetween wsX0_isBetween) := goodIn_app (goodIn_of _ (by decide +kernel)) ggX0_hymn_X0_isBetween
set_option maxRecDepth 20000 in
theorem ggX0_hymn_X0_needArgument : GoodIn wsX0_hymn wsX0_needArgument := goodIn_ca (goodIn_r _ [21, 22, 23] (by decide +kernel) (by decide +kernel)) (goodIn_sub (fun _ h => List.mem_cons_of_mem _ (List.mem_append_left _ (List.mem_append_right _ h))) (by decide +kernel))
set_option maxRecDepth 20000 in
theorem gX0_hymn_X0_needArgument : GoodIn wsX0_hymn (va_wsS RX0 64 yX0_needArgument wsX0_needArgument) := goodIn_app (goodIn_of _ (by decide +kernel)) ggX0_hymn_X0_needArgument
set_option maxRecDepth 20000 in
theorem ggX0_hymn_X0_needState : GoodIn wsX0_hymn wsX0_needState := goodIn_ca (goodIn_r _ [26, 27, 28] (by decide +kernel) (by decide +kernel)) (goodIn_sub (fun _ h => List.mem_cons_of_mem _ (List.mem_append_right _ h)) (by decide +kernel))
set_option maxRecDepth 20000 in
theorem gX0_hymn_X0_needState : GoodIn wsX0_hymn (va_wsS RX0 71 yX0_needState wsX0_needState) := goodIn_app (goodIn_of _ (by decide +kernel)) ggX0_hymn_X0_needState
set_option maxRecDepth 20000 in
theorem ggX0_hymn_X0_turns : GoodIn wsX0_hymn wsX0_turns := goodIn_r _ [31, 32, 33, 9, 34, 35, 36, 37] (by decide +kernel) (by decide +kernel)
set_option maxRecDepth 20000 in
theorem gX0_hymn_X0_turns : GoodIn wsX0_hymn (va_wsS RX0 74 yX0_turns wsX0_turns) := goodIn_app (goodIn_of _ (by decide +kernel)) ggX0_hymn_X0_turns
theorem dX0_hymn_0 : decode cX0_hymn 0 = .ok (.iload_n 1, 1) := by decide +kernel
theorem dX0_hymn_1 : decode cX0_hymn 1 = .ok (.invokestatic 52, 3) := by decide +kernel
theorem dX0_hymn_4 : decode cX0_hymn 4 = .ok (.invokestatic 56, 3) := by decide +kernel
theorem dX0_hymn_7 : decode cX0_hymn 7 = .ok (.iload_n 2, 1) := by decide +kernel
theorem dX0_hymn_8 : decode cX0_hymn 8 = .ok (.iconst 1, 1) := by decide +kernel
theorem dX0_hymn_9 : decode cX0_hymn 9 = .ok (.bipush 15, 2) := by decide +kernel
theorem dX0_hymn_11 : decode cX0_hymn 11 = .ok (.invokestatic 60, 3) := by decide +kernel
theorem dX0_hymn_14 : decode cX0_hymn 14 = .ok (.invokestatic 64, 3) := by decide +kernel
theorem dX0_hymn_17 : decode cX0_hymn 17 = .ok (.iload_n 3, 1) := by decide +kernel
theorem dX0_hymn_18 : decode cX0_hymn 18 = .ok (.iconst 1, 1) := by decide +kernel
theorem dX0_hymn_19 : decode cX0_hymn 19 = .ok (.bipush 30, 2) := by decide +kernel
theorem dX0_hymn_21 : decode cX0_hymn 21 = .ok (.invokestatic 60, 3) := by decide +kernel
theorem dX0_hymn_24 : decode cX0_hymn 24 = .ok (.invokestatic 64, 3) := by decide +kernel
theorem dX0_hymn_27 : decode cX0_hymn 27 = .ok (.iload 4, 2) := by decide +kernel
theorem dX0_hymn_29 : decode cX0_hymn 29 = .ok (.iconst 0, 1) := by decide +kernel
theorem dX0_hymn_30 : decode cX0_hymn 30 = .ok (.iconst 1, 1) := by decide +kernel
theorem dX0_hymn_31 : decode cX0_hymn 31 = .ok (.iload_n 3, 1) := by decide +kernel
theorem dX0_hymn_32 : decode cX0_hymn 32 = .ok (.ishl, 1) := by decide +kernel
theorem dX0_hymn_33 : decode cX0_hymn 33 = .ok (.iconst 1, 1) := by decide +kernel
theorem dX0_hymn_34 : decode cX0_hymn 34 = .ok (.isub, 1) := by decide +kernel
theorem dX0_hymn_35 : decode cX0_hymn 35 = .ok (.invokestatic 60, 3) := by decide +kernel
theorem dX0_hymn_38 : decode cX0_hymn 38 = .ok (.invokestatic 64, 3) := by decide +kernel
theorem dX0_hymn_41 : decode cX0_hymn 41 = .ok (.aload_n 0, 1) := by decide +kernel
theorem dX0_hymn_42 : decode cX0_hymn 42 = .ok (.getfield 67, 3) := by decide +kernel
theorem dX0_hymn_45 : decode cX0_hymn 45 = .ok (.bipush 16, 2) := by decide +kernel
theorem dX0_hymn_47 : decode cX0_hymn 47 = .ok (.if_icmp .ge 7, 3) := by decide +kernel
theorem dX0_hymn_50 : decode cX0_hymn 50 = .ok (.iconst 1, 1) := by decide +kernel
theorem dX0_hymn_51 : decode cX0_hymn 51 = .ok (.goto 4, 3) := by decide +kernel
theorem dX0_hymn_54 : decode cX0_hymn 54 = .ok (.iconst 0, 1) := by decide +kernel
theorem dX0_hymn_55 : decode cX0_hymn 55 = .ok (.invokestatic 71, 3) := by decide +kernel
theorem dX0_hymn_58 : decode cX0_hymn 58 = .ok (.aload_n 0, 1) := by decide +kernel
theorem dX0_hymn_59 : decode cX0_hymn 59 = .ok (.getfield 67, 3) := by decide +kernel
theorem dX0_hymn_62 : decode cX0_hymn 62 = .ok (.istore 5, 2) := by decide +kernel
theorem dX0_hymn_64 : decode cX0_hymn 64 = .ok (.aload_n 0, 1) := by decide +kernel
theorem dX0_hymn_65 : decode cX0_hymn 65 = .ok (.getfield 9, 3) := by decide +kernel
theorem dX0_hymn_68 : decode cX0_hymn 68 = .ok (.iload 5, 2) := by decide +kernel
theorem dX0_hymn_70 : decode cX0_hymn 70 = .ok (.iload_n 1, 1) := by decide +kernel
theorem dX0_hymn_71 : decode cX0_hymn 71 = .ok (.iastore, 1) := by decide +kernel
theorem dX0_hymn_72 : decode cX0_hymn 72 = .ok (.aload_n 0, 1) := by decide +kernel
theorem dX0_hymn_73 : decode cX0_hymn 73 = .ok (.getfield 13, 3) := by decide +kernel
theorem dX0_hymn_76 : decode cX0_hymn 76 = .ok (.iload 5, 2) := by decide +kernel
theorem dX0_hymn_78 : decode cX0_hymn 78 = .ok (.iload_n 2, 1) := by decide +kernel
theorem dX0_hymn_79 : decode cX0_hymn 79 = .ok (.iastore, 1) := by decide +kernel
theorem dX0_hymn_80 : decode cX0_hymn 80 = .ok (.aload_n 0, 1) := by decide +kernel
theorem dX0_hymn_81 : decode cX0_hymn 81 = .ok (.getfield 16, 3) := by decide +kernel
theorem dX0_hymn_84 : decode cX0_hymn 84 = .ok (.iload 5, 2) := by decide +kernel
theorem dX0_hymn_86 : decode cX0_hymn 86 = .ok (.iload_n 3, 1) := by decide +kernel
theorem dX0_hymn_87 : decode cX0_hymn 87 = .ok (.iastore, 1) := by decide +kernel
theorem dX0_hymn_88 : decode cX0_hymn 88 = .ok (.aload_n 0, 1) := by decide +kernel
theorem dX0_hymn_89 : decode cX0_hymn 89 = .ok (.getfield 19, 3) := by decide +kernel
theorem dX0_hymn_92 : decode cX0_hymn 92 = .ok (.iload 5, 2) := by decide +kernel
theorem dX0_hymn_94 : decode cX0_hymn 94 = .ok (.iload 4, 2) := by decide +kernel
theorem dX0_hymn_96 : decode cX0_hymn 96 = .ok (.iastore, 1) := by decide +kernel
theorem dX0_hymn_97 : decode cX0_hymn 97 = .ok (.aload_n 0, 1) := by decide +kernel
theorem dX0_hymn_98 : decode cX0_hymn 98 = .ok (.getfield 22, 3) := by decide +kernel
theorem dX0_hymn_101 : decode cX0_hymn 101 = .ok (.iload 5, 2) := by decide +kernel
theorem dX0_hymn_103 : decode cX0_hymn 103 = .ok (.iload_n 3, 1) := by decide +kernel
theorem dX0_hymn_104 : decode cX0_hymn 104 = .ok (.iload 4, 2) := by decide +kernel
theorem dX0_hymn_106 : decode cX0_hymn 106 = .ok (.invokestatic 74, 3) := by decide +kernel
theorem dX0_hymn_109 : decode cX0_hymn 109 = .ok (.iastore, 1) := by decide +kernel
theorem dX0_hymn_110 : decode cX0_hymn 110 = .ok (.aload_n 0, 1) := by decide +kernel
theorem dX0_hymn_111 : decode cX0_hymn 111 = .ok (.dup, 1) := by decide +kernel
theorem dX0_hymn_112 : decode cX0_hymn 112 = .ok (.getfield 67, 3) := by decide +kernel
theorem dX0_hymn_115 : decode cX0_hymn 115 = .ok (.iconst 1, 1) := by decide +kernel
theorem dX0_hymn_116 : decode cX0_hymn 116 = .ok (.iadd, 1) := by decide +kernel
theorem dX0_hymn_117 : decode cX0_hymn 117 = .ok (.putfield 67, 3) := by decide +kernel
theorem dX0_hymn_120 : decode cX0_hymn 120 = .ok (.iload 5, 2) := by decide +kernel
theorem dX0_hymn_122 : decode cX0_hymn 122 = .ok (.ireturn, 1) := by decide +kernel
theorem dX0_hymns_0 : decode cX0_hymns 0 = .ok (.aload_n 0, 1) := by decide +kernel
theorem dX0_hymns_1 : decode cX0_hymns 1 = .ok (.getfield 67, 3) := by decide +kernel
theorem dX0_hymns_4 : decode cX0_hymns 4 = .ok (.ireturn, 1) := by decide +kernel
set_option maxRecDepth 20000 in
theorem ggX0_pages_X0_isHymn : GoodIn wsX0_pages wsX0_isHymn := goodIn_r _ [5, 6, 7, 8, 4, 9, 27, 28, 29, 30, 31, 32, 33, 34, 35, 36, 37, 38, 39, 40, 41, 42, 43, 44] (by decide +kernel) (by decide +kernel)
set_option maxRecDepth 20000 in
theorem gX0_pages_X0_isHymn : GoodIn wsX0_pages (wsV RX0 78 RX0 yX0_isHymn wsX0_isHymn) := goodIn_app (goodIn_of _ (by decide +kernel)) ggX0_pages_X0_isHymn
set_option maxRecDepth 20000 in
theorem ggX0_pages_X0_needIndex : GoodIn wsX0_pages wsX0_needIndex := goodIn_ca (goodIn_r _ [12, 13, 14] (by decide +kernel) (by decide +kernel)) (goodIn_sub (fun _ h => List.mem_cons_of_mem _ (List.mem_append_right _ h)) (by decide +kernel))
set_option maxRecDepth 20000 in
theorem gX0_pages_X0_needIndex : GoodIn wsX0_pages (va_wsS RX0 56 yX0_needIndex wsX0_needIndex) := goodIn_app (goodIn_of _ (by decide +kernel)) ggX0_pages_X0_needIndex
set_option maxRecDepth 20000 in
theorem ggX0_pages_X0_pageCount : GoodIn wsX0_pages wsX0_pageCount := goodIn_r _ [18, 19, 20, 21, 22, 23, 24, 25, 26, 27, 28, 29, 30, 31, 32, 33, 34, 35, 36, 37, 38, 39, 40, 41, 42, 43, 44] (by decide +kernel) (by decide +kernel)
set_option maxRecDepth 20000 in
theorem gX0_pages_X0_pageCount : GoodIn wsX0_pages (wsV RX0 81 RX0 yX0_pageCount wsX0_pageCount) := goodIn_app (goodIn_of _ (by decide +kernel)) ggX0_pages_X0_pageCount
theorem dX0_pages_0 : decode cX0_pages 0 = .ok (.aload_n 0, 1) := by decide +kernel
theorem dX0_pages_1 : decode cX0_pages 1 = .ok (.iload_n 1, 1) := by decide +kernel
theorem dX0_pages_2 : decode cX0_pages 2 = .ok (.invokevirtual 78, 3) := by decide +kernel
theorem dX0_pages_5 : decode cX0_pages 5 = .ok (.invokestatic 56, 3) := by decide +kernel
theorem dX0_pages_8 : decode cX0_pages 8 = .ok (.aload_n 0, 1) := by decide +kernel
theorem dX0_pages_9 : decode cX0_pages 9 = .ok (.iload_n 1, 1) := by decide +kernel
theorem dX0_pages_10 : decode cX0_pages 10 = .ok (.invokevirtual 81, 3) := by decide +kernel
theorem dX0_pages_13 : decode cX0_pages 13 = .ok (.ireturn, 1) := by decide +kernel
set_option maxRecDepth 20000 in
theorem ggX0_pageOf_X0_isHymn : GoodIn wsX0_pageOf wsX0_isHymn := goodIn_r _ [7, 8, 9, 10, 6, 11, 24, 25, 26, 27, 28, 29, 30, 31, 32, 33, 34, 35, 36, 37, 38, 39, 40, 41] (by decide +kernel) (by decide +kernel)
set_option maxRecDepth 20000 in
theorem gX0_pageOf_X0_isHymn : GoodIn wsX0_pageOf (wsV RX0 78 RX0 yX0_isHymn wsX0_isHymn) := goodIn_app (goodIn_of _ (by decide +kernel)) ggX0_pageOf_X0_isHymn
set_option maxRecDepth 20000 in
theorem ggX0_pageOf_X0_needIndex : GoodIn wsX0_pageOf wsX0_needIndex := goodIn_ca (goodIn_r _ [14, 15, 16] (by decide +kernel) (by decide +kernel)) (goodIn_sub (fun _ h => List.mem_cons_of_mem _ (List.mem_append_right _ h)) (by decide +kernel))
set_option maxRecDepth 20000 in
theorem gX0_pageOf_X0_needIndex : GoodIn wsX0_pageOf (va_wsS RX0 56 yX0_needIndex wsX0_needIndex) := goodIn_app (goodIn_of _ (by decide +kernel)) ggX0_pageOf_X0_needIndex
set_option maxRecDepth 20000 in
theorem ggX0_pageOf_X0_isBetween : GoodIn wsX0_pageOf wsX0_isBetween := goodIn_r _ [11] (by decide +kernel) (by decide +kernel)
set_option maxRecDepth 20000 in
theorem gX0_pageOf_X0_isBetween : GoodIn wsX0_pageOf (va_wsS RX0 60 yX0_isBetween wsX0_isBetween) := goodIn_app (goodIn_of _ (by decide +kernel)) ggX0_pageOf_X0_isBetween
set_option maxRecDepth 20000 in
theorem ggX0_pageOf_J6_bitCount_0f7a4 : GoodIn wsX0_pageOf wsJ6_bitCount_0f7a4 := goodIn_r _ [20, 21, 22, 23] (by decide +kernel) (by decide +kernel)
set_option maxRecDepth 20000 in
theorem gX0_pageOf_J6_bitCount_0f7a4 : GoodIn wsX0_pageOf (va_wsS RX0 85 yJ6_bitCount_0f7a4 wsJ6_bitCount_0f7a4) := goodIn_app (goodIn_of _ (by decide +kernel)) ggX0_pageOf_J6_bitCount_0f7a4
theorem dX0_pageOf_0 : decode cX0_pageOf 0 = .ok (.aload_n 0, 1) := by decide +kernel
theorem dX0_pageOf_1 : decode cX0_pageOf 1 = .ok (.iload_n 1, 1) := by decide +kernel
theorem dX0_pageOf_2 : decode cX0_pageOf 2 = .ok (.invokevirtual 78, 3) := by decide +kernel
theorem dX0_pageOf_5 : decode cX0_pageOf 5 = .ok (.invokestatic 56, 3) := by decide +kernel
theorem dX0_pageOf_8 : decode cX0_pageOf 8 = .ok (.iload_n 2, 1) := by decide +kernel
theorem dX0_pageOf_9 : decode cX0_pageOf 9 = .ok (.iconst 0, 1) := by decide +kernel
theorem dX0_pageOf_10 : decode cX0_pageOf 10 = .ok (.aload_n 0, 1) := by decide +kernel
theorem dX0_pageOf_11 : decode cX0_pageOf 11 = .ok (.getfield 16, 3) := by decide +kernel
theorem dX0_pageOf_14 : decode cX0_pageOf 14 = .ok (.iload_n 1, 1) := by decide +kernel
theorem dX0_pageOf_15 : decode cX0_pageOf 15 = .ok (.iaload, 1) := by decide +kernel
theorem dX0_pageOf_16 : decode cX0_pageOf 16 = .ok (.iconst 1, 1) := by decide +kernel
theorem dX0_pageOf_17 : decode cX0_pageOf 17 = .ok (.isub, 1) := by decide +kernel
theorem dX0_pageOf_18 : decode cX0_pageOf 18 = .ok (.invokestatic 60, 3) := by decide +kernel
theorem dX0_pageOf_21 : decode cX0_pageOf 21 = .ok (.invokestatic 56, 3) := by decide +kernel
theorem dX0_pageOf_24 : decode cX0_pageOf 24 = .ok (.iconst 1, 1) := by decide +kernel
theorem dX0_pageOf_25 : decode cX0_pageOf 25 = .ok (.iload_n 2, 1) := by decide +kernel
theorem dX0_pageOf_26 : decode cX0_pageOf 26 = .ok (.ishl, 1) := by decide +kernel
theorem dX0_pageOf_27 : decode cX0_pageOf 27 = .ok (.iconst 1, 1) := by decide +kernel
theorem dX0_pageOf_28 : decode cX0_pageOf 28 = .ok (.isub, 1) := by decide +kernel
theorem dX0_pageOf_29 : decode cX0_pageOf 29 = .ok (.istore_n 3, 1) := by decide +kernel
theorem dX0_pageOf_30 : decode cX0_pageOf 30 = .ok (.aload_n 0, 1) := by decide +kernel
theorem dX0_pageOf_31 : decode cX0_pageOf 31 = .ok (.getfield 22, 3) := by decide +kernel
theorem dX0_pageOf_34 : decode cX0_pageOf 34 = .ok (.iload_n 1, 1) := by decide +kernel
theorem dX0_pageOf_35 : decode cX0_pageOf 35 = .ok (.iaload, 1) := by decide +kernel
theorem dX0_pageOf_36 : decode cX0_pageOf 36 = .ok (.iload_n 3, 1) := by decide +kernel
theorem dX0_pageOf_37 : decode cX0_pageOf 37 = .ok (.iand, 1) := by decide +kernel
theorem dX0_pageOf_38 : decode cX0_pageOf 38 = .ok (.invokestatic 85, 3) := by decide +kernel
theorem dX0_pageOf_41 : decode cX0_pageOf 41 = .ok (.ireturn, 1) := by decide +kernel
set_option maxRecDepth 20000 in
theorem ggX0_badTurns_X0_isHymn : GoodIn wsX0_badTurns wsX0_isHymn := goodIn_r _ [7, 8, 9, 10, 6, 11, 24, 25, 26, 27, 28, 29, 30, 31, 32, 33, 34, 35, 36, 37, 38, 39, 40, 41] (by decide +kernel) (by decide +kernel)
set_option maxRecDepth 20000 in
theorem gX0_badTurns_X0_isHymn : GoodIn wsX0_badTurns (wsV RX0 78 RX0 yX0_isHymn wsX0_isHymn) := goodIn_app (goodIn_of _ (by decide +kernel)) ggX0_badTurns_X0_isHymn
set_option maxRecDepth 20000 in
theorem ggX0_badTurns_X0_needIndex : GoodIn wsX0_badTurns wsX0_needIndex := goodIn_ca (goodIn_r _ [14, 15, 16] (by decide +kernel) (by decide +kernel)) (goodIn_sub (fun _ h => List.mem_cons_of_mem _ (List.mem_append_right _ h)) (by decide +kernel))
set_option maxRecDepth 20000 in
theorem gX0_badTurns_X0_needIndex : GoodIn wsX0_badTurns (va_wsS RX0 56 yX0_needIndex wsX0_needIndex) := goodIn_app (goodIn_of _ (by decide +kernel)) ggX0_badTurns_X0_needIndex
set_option maxRecDepth 20000 in
theorem ggX0_badTurns_J6_bitCount_0f7a4 : GoodIn wsX0_badTurns wsJ6_bitCount_0f7a4 := goodIn_r _ [20, 21, 22, 23] (by decide +kernel) (by decide +kernel)
set_option maxRecDepth 20000 in
theorem gX0_badTurns_J6_bitCount_0f7a4 : GoodIn wsX0_badTurns (va_wsS RX0 85 yJ6_bitCount_0f7a4 wsJ6_bitCount_0f7a4) := goodIn_app (goodIn_of _ (by decide +kernel)) ggX0_badTurns_J6_bitCount_0f7a4
theorem dX0_badTurns_0 : decode cX0_badTurns 0 = .ok (.aload_n 0, 1) := by decide +kernel
theorem dX0_badTurns_1 : decode cX0_badTurns 1 = .ok (.iload_n 1, 1) := by decide +kernel
theorem dX0_badTurns_2 : decode cX0_badTurns 2 = .ok (.invokevirtual 78, 3) := by decide +kernel
theorem dX0_badTurns_5 : decode cX0_badTurns 5 = .ok (.invokestatic 56, 3) := by decide +kernel
theorem dX0_badTurns_8 : decode cX0_badTurns 8 = .ok (.aload_n 0, 1) := by decide +kernel
theorem dX0_badTurns_9 : decode cX0_badTurns 9 = .ok (.getfield 22, 3) := by decide +kernel
theorem dX0_badTurns_12 : decode cX0_badTurns 12 = .ok (.iload_n 1, 1) := by decide +kernel
theorem dX0_badTurns_13 : decode cX0_badTurns 13 = .ok (.iaload, 1) := by decide +kernel
theorem dX0_badTurns_14 : decode cX0_badTurns 14 = .ok (.aload_n 0, 1) := by decide +kernel
theorem dX0_badTurns_15 : decode cX0_badTurns 15 = .ok (.getfield 19, 3) := by decide +kernel
theorem dX0_badTurns_18 : decode cX0_badTurns 18 = .ok (.iload_n 1, 1) := by decide +kernel
theorem dX0_badTurns_19 : decode cX0_badTurns 19 = .ok (.iaload, 1) := by decide +kernel
theorem dX0_badTurns_20 : decode cX0_badTurns 20 = .ok (.iconst (-1), 1) := by decide +kernel
theorem dX0_badTurns_21 : decode cX0_badTurns 21 = .ok (.ixor, 1) := by decide +kernel
theorem dX0_badTurns_22 : decode cX0_badTurns 22 = .ok (.iand, 1) := by decide +kernel
theorem dX0_badTurns_23 : decode cX0_badTurns 23 = .ok (.invokestatic 85, 3) := by decide +kernel
theorem dX0_badTurns_26 : decode cX0_badTurns 26 = .ok (.ireturn, 1) := by decide +kernel
set_option maxRecDepth 20000 in
theorem ggX0_pageCount_J6_bitCount_0f7a4 : GoodIn wsX0_pageCount wsJ6_bitCount_0f7a4 := goodIn_r _ [5, 6, 7, 8] (by decide +kernel) (by decide +kernel)
set_option maxRecDepth 20000 in
theorem gX0_pageCount_J6_bitCount_0f7a4 : GoodIn wsX0_pageCount (va_wsS RX0 85 yJ6_bitCount_0f7a4 wsJ6_bitCount_0f7a4) := goodIn_app (goodIn_of _ (by decide +kernel)) ggX0_pageCount_J6_bitCount_0f7a4
theorem dX0_pageCount_0 : decode cX0_pageCount 0 = .ok (.aload_n 0, 1) := by decide +kernel
theorem dX0_pageCount_1 : decode cX0_pageCount 1 = .ok (.getfield 22, 3) := by decide +kernel
theorem dX0_pageCount_4 : decode cX0_pageCount 4 = .ok (.iload_n 1, 1) := by decide +kernel
theorem dX0_pageCount_5 : decode cX0_pageCount 5 = .ok (.iaload, 1) := by decide +kernel
theorem dX0_pageCount_6 : decode cX0_pageCount 6 = .ok (.invokestatic 85, 3) := by decide +kernel
theorem dX0_pageCount_9 : decode cX0_pageCount 9 = .ok (.iconst 1, 1) := by decide +kernel
theorem dX0_pageCount_10 : decode cX0_pageCount 10 = .ok (.iadd, 1) := by decide +kernel
theorem dX0_pageCount_11 : decode cX0_pageCount 11 = .ok (.ireturn, 1) := by decide +kernel
set_option maxRecDepth 20000 in
theorem ggX0_turns_X0_lastLineOfFullPage : GoodIn wsX0_turns wsX0_lastLineOfFullPage := goodIn_r _ [4, 5, 6, 3, 7] (by decide +kernel) (by decide +kernel)
set_option maxRecDepth 20000 in
theorem gX0_turns_X0_lastLineOfFullPage : GoodIn wsX0_turns (va_wsS RX0 90 yX0_lastLineOfFullPage wsX0_lastLineOfFullPage) := goodIn_app (goodIn_of _ (by decide +kernel)) ggX0_turns_X0_lastLineOfFullPage
theorem dX0_turns_0 : decode cX0_turns 0 = .ok (.iconst 0, 1) := by decide +kernel
theorem dX0_turns_1 : decode cX0_turns 1 = .ok (.istore_n 2, 1) := by decide +kernel
theorem dX0_turns_2 : decode cX0_turns 2 = .ok (.iconst 0, 1) := by decide +kernel
theorem dX0_turns_3 : decode cX0_turns 3 = .ok (.istore_n 3, 1) := by decide +kernel
theorem dX0_turns_4 : decode cX0_turns 4 = .ok (.iconst 0, 1) := by decide +kernel
theorem dX0_turns_5 : decode cX0_turns 5 = .ok (.istore 4, 2) := by decide +kernel
theorem dX0_turns_7 : decode cX0_turns 7 = .ok (.iload 4, 2) := by decide +kernel
theorem dX0_turns_9 : decode cX0_turns 9 = .ok (.iload_n 0, 1) := by decide +kernel
theorem dX0_turns_10 : decode cX0_turns 10 = .ok (.if_icmp .ge 36, 3) := by decide +kernel
theorem dX0_turns_13 : decode cX0_turns 13 = .ok (.iload_n 0, 1) := by decide +kernel
theorem dX0_turns_14 : decode cX0_turns 14 = .ok (.iload_n 3, 1) := by decide +kernel
theorem dX0_turns_15 : decode cX0_turns 15 = .ok (.isub, 1) := by decide +kernel
theorem dX0_turns_16 : decode cX0_turns 16 = .ok (.bipush 8, 2) := by decide +kernel
theorem dX0_turns_18 : decode cX0_turns 18 = .ok (.if_icmp .le 28, 3) := by decide +kernel
theorem dX0_turns_21 : decode cX0_turns 21 = .ok (.iload_n 3, 1) := by decide +kernel
theorem dX0_turns_22 : decode cX0_turns 22 = .ok (.iload_n 1, 1) := by decide +kernel
theorem dX0_turns_23 : decode cX0_turns 23 = .ok (.invokestatic 90, 3) := by decide +kernel
theorem dX0_turns_26 : decode cX0_turns 26 = .ok (.istore 5, 2) := by decide +kernel
theorem dX0_turns_28 : decode cX0_turns 28 = .ok (.iload_n 2, 1) := by decide +kernel
theorem dX0_turns_29 : decode cX0_turns 29 = .ok (.iconst 1, 1) := by decide +kernel
theorem dX0_turns_30 : decode cX0_turns 30 = .ok (.iload 5, 2) := by decide +kernel
theorem dX0_turns_32 : decode cX0_turns 32 = .ok (.ishl, 1) := by decide +kernel
theorem dX0_turns_33 : decode cX0_turns 33 = .ok (.ior, 1) := by decide +kernel
theorem dX0_turns_34 : decode cX0_turns 34 = .ok (.istore_n 2, 1) := by decide +kernel
theorem dX0_turns_35 : decode cX0_turns 35 = .ok (.iload 5, 2) := by decide +kernel
theorem dX0_turns_37 : decode cX0_turns 37 = .ok (.iconst 1, 1) := by decide +kernel
theorem dX0_turns_38 : decode cX0_turns 38 = .ok (.iadd, 1) := by decide +kernel
theorem dX0_turns_39 : decode cX0_turns 39 = .ok (.istore_n 3, 1) := by decide +kernel
theorem dX0_turns_40 : decode cX0_turns 40 = .ok (.iinc 4 1, 3) := by decide +kernel
theorem dX0_turns_43 : decode cX0_turns 43 = .ok (.goto (-36), 3) := by decide +kernel
theorem dX0_turns_46 : decode cX0_turns 46 = .ok (.iload_n 2, 1) := by decide +kernel
theorem dX0_turns_47 : decode cX0_turns 47 = .ok (.ireturn, 1) := by decide +kernel
set_option maxRecDepth 20000 in
theorem ggX0_lastLineOfFullPage_X0_isInSet : GoodIn wsX0_lastLineOfFullPage wsX0_isInSet := goodIn_r _ [4] (by decide +kernel) (by decide +kernel)
set_option maxRecDepth 20000 in
theorem gX0_lastLineOfFullPage_X0_isInSet : GoodIn wsX0_lastLineOfFullPage (va_wsS RX0 93 yX0_isInSet wsX0_isInSet) := goodIn_app (goodIn_of _ (by decide +kernel)) ggX0_lastLineOfFullPage_X0_isInSet
theorem dX0_lastLineOfFullPage_0 : decode cX0_lastLineOfFullPage 0 = .ok (.iload_n 0, 1) := by decide +kernel
theorem dX0_lastLineOfFullPage_1 : decode cX0_lastLineOfFullPage 1 = .ok (.bipush 8, 2) := by decide +kernel
theorem dX0_lastLineOfFullPage_3 : decode cX0_lastLineOfFullPage 3 = .ok (.iadd, 1) := by decide +kernel
theorem dX0_lastLineOfFullPage_4 : decode cX0_lastLineOfFullPage 4 = .ok (.iconst 1, 1) := by decide +kernel
theorem dX0_lastLineOfFullPage_5 : decode cX0_lastLineOfFullPage 5 = .ok (.isub, 1) := by decide +kernel
theorem dX0_lastLineOfFullPage_6 : decode cX0_lastLineOfFullPage 6 = .ok (.istore_n 2, 1) := by decide +kernel
theorem dX0_lastLineOfFullPage_7 : decode cX0_lastLineOfFullPage 7 = .ok (.iload_n 2, 1) := by decide +kernel
theorem dX0_lastLineOfFullPage_8 : decode cX0_lastLineOfFullPage 8 = .ok (.istore_n 3, 1) := by decide +kernel
theorem dX0_lastLineOfFullPage_9 : decode cX0_lastLineOfFullPage 9 = .ok (.iload_n 3, 1) := by decide +kernel
theorem dX0_lastLineOfFullPage_10 : decode cX0_lastLineOfFullPage 10 = .ok (.iload_n 0, 1) := by decide +kernel
theorem dX0_lastLineOfFullPage_11 : decode cX0_lastLineOfFullPage 11 = .ok (.if_icmp .lt 20, 3) := by decide +kernel
theorem dX0_lastLineOfFullPage_14 : decode cX0_lastLineOfFullPage 14 = .ok (.iload_n 3, 1) := by decide +kernel
theorem dX0_lastLineOfFullPage_15 : decode cX0_lastLineOfFullPage 15 = .ok (.iload_n 1, 1) := by decide +kernel
theorem dX0_lastLineOfFullPage_16 : decode cX0_lastLineOfFullPage 16 = .ok (.i2l, 1) := by decide +kernel
theorem dX0_lastLineOfFullPage_17 : decode cX0_lastLineOfFullPage 17 = .ok (.invokestatic 93, 3) := by decide +kernel
theorem dX0_lastLineOfFullPage_20 : decode cX0_lastLineOfFullPage 20 = .ok (.ifCond .eq 5, 3) := by decide +kernel
theorem dX0_lastLineOfFullPage_23 : decode cX0_lastLineOfFullPage 23 = .ok (.iload_n 3, 1) := by decide +kernel
theorem dX0_lastLineOfFullPage_24 : decode cX0_lastLineOfFullPage 24 = .ok (.ireturn, 1) := by decide +kernel
theorem dX0_lastLineOfFullPage_25 : decode cX0_lastLineOfFullPage 25 = .ok (.iinc 3 (-1), 3) := by decide +kernel
theorem dX0_lastLineOfFullPage_28 : decode cX0_lastLineOfFullPage 28 = .ok (.goto (-19), 3) := by decide +kernel
theorem dX0_lastLineOfFullPage_31 : decode cX0_lastLineOfFullPage 31 = .ok (.iload_n 2, 1) := by decide +kernel
theorem dX0_lastLineOfFullPage_32 : decode cX0_lastLineOfFullPage 32 = .ok (.ireturn, 1) := by decide +kernel
set_option maxRecDepth 20000 in
theorem ggX0_right_X0_isHymn : GoodIn wsX0_right wsX0_isHymn := goodIn_r _ [10, 11, 12, 13, 9, 14, 36, 37, 38, 39, 40, 41, 42, 43, 44, 45, 46, 47, 48, 49, 50, 51, 52, 53] (by decide +kernel) (by decide +kernel)
set_option maxRecDepth 20000 in
theorem gX0_right_X0_isHymn : GoodIn wsX0_right (wsV RX0 78 RX0 yX0_isHymn wsX0_isHymn) := goodIn_app (goodIn_of _ (by decide +kernel)) ggX0_right_X0_isHymn
set_option maxRecDepth 20000 in
theorem ggX0_right_X0_needIndex : GoodIn wsX0_right wsX0_needIndex := goodIn_ca (goodIn_r _ [17, 18, 19] (by decide +kernel) (by decide +kernel)) (goodIn_sub (fun _ h => List.mem_cons_of_mem _ (List.mem_append_left _ (List.mem_append_left _ (List.mem_append_right _ h)))) (by decide +kernel))
set_option maxRecDepth 20000 in
theorem gX0_right_X0_needIndex : GoodIn wsX0_right (va_wsS RX0 56 yX0_needIndex wsX0_needIndex) := goodIn_app (goodIn_of _ (by decide +kernel)) ggX0_right_X0_needIndex
set_option maxRecDepth 20000 in
theorem ggX0_right_X0_isUse : GoodIn wsX0_right wsX0_isUse := goodIn_r _ [22, 12, 13, 9, 14] (by decide +kernel) (by decide +kernel)
set_option maxRecDepth 20000 in
theorem gX0_right_X0_isUse : GoodIn wsX0_right (va_wsS RX0 97 yX0_isUse wsX0_isUse) := goodIn_app (goodIn_of _ (by decide +kernel)) ggX0_right_X0_isUse
set_option maxRecDepth 20000 in
theorem ggX0_right_X0_isDay : GoodIn wsX0_right wsX0_isDay := goodIn_r _ [25, 12, 13, 9, 14] (by decide +kernel) (by decide +kernel)
set_option maxRecDepth 20000 in
theorem gX0_right_X0_isDay : GoodIn wsX0_right (va_wsS RX0 100 yX0_isDay wsX0_isDay) := goodIn_app (goodIn_of _ (by decide +kernel)) ggX0_right_X0_isDay
set_option maxRecDepth 20000 in
theorem ggX0_right_X0_needArgument : GoodIn wsX0_right wsX0_needArgument := goodIn_ca (goodIn_r _ [28, 29, 30] (by decide +kernel) (by decide +kernel)) (goodIn_sub (fun _ h => List.mem_cons_of_mem _ (List.mem_append_left _ (List.mem_append_right _ h))) (by decide +kernel))
set_option maxRecDepth 20000 in
theorem gX0_right_X0_needArgument : GoodIn wsX0_right (va_wsS RX0 64 yX0_needArgument wsX0_needArgument) := goodIn_app (goodIn_of _ (by decide +kernel)) ggX0_right_X0_needArgument
set_option maxRecDepth 20000 in
theorem ggX0_right_X0_isBetween : GoodIn wsX0_right wsX0_isBetween := goodIn_r _ [14] (by decide +kernel) (by decide +kernel)
set_option maxRecDepth 20000 in
theorem gX0_right_X0_isBetween : GoodIn wsX0_right (va_wsS RX0 60 yX0_isBetween wsX0_isBetween) := goodIn_app (goodIn_of _ (by decide +kernel)) ggX0_right_X0_isBetween
set_option maxRecDepth 20000 in
theorem ggX0_right_X0_needState : GoodIn wsX0_right wsX0_needState := goodIn_ca (goodIn_r _ [33, 34, 35] (by decide +kernel) (by decide +kernel)) (goodIn_sub (fun _ h => List.mem_cons_of_mem _ (List.mem_append_right _ h)) (by decide +kernel))
set_option maxRecDepth 20000 in
theorem gX0_right_X0_needState : GoodIn wsX0_right (va_wsS RX0 71 yX0_needState wsX0_needState) := goodIn_app (goodIn_of _ (by decide +kernel)) ggX0_right_X0_needState
theorem dX0_right_0 : decode cX0_right 0 = .ok (.aload_n 0, 1) := by decide +kernel
theorem dX0_right_1 : decode cX0_right 1 = .ok (.iload_n 1, 1) := by decide +kernel
theorem dX0_right_2 : decode cX0_right 2 = .ok (.invokevirtual 78, 3) := by decide +kernel
theorem dX0_right_5 : decode cX0_right 5 = .ok (.invokestatic 56, 3) := by decide +kernel
theorem dX0_right_8 : decode cX0_right 8 = .ok (.iload_n 2, 1) := by decide +kernel
theorem dX0_right_9 : decode cX0_right 9 = .ok (.invokestatic 97, 3) := by decide +kernel
theorem dX0_right_12 : decode cX0_right 12 = .ok (.invokestatic 56, 3) := by decide +kernel
theorem dX0_right_15 : decode cX0_right 15 = .ok (.iload_n 3, 1) := by decide +kernel
theorem dX0_right_16 : decode cX0_right 16 = .ok (.invokestatic 100, 3) := by decide +kernel
theorem dX0_right_19 : decode cX0_right 19 = .ok (.invokestatic 64, 3) := by decide +kernel
theorem dX0_right_22 : decode cX0_right 22 = .ok (.iload 4, 2) := by decide +kernel
theorem dX0_right_24 : decode cX0_right 24 = .ok (.iload_n 3, 1) := by decide +kernel
theorem dX0_right_25 : decode cX0_right 25 = .ok (.sipush 1459, 3) := by decide +kernel
theorem dX0_right_28 : decode cX0_right 28 = .ok (.invokestatic 60, 3) := by decide +kernel
theorem dX0_right_31 : decode cX0_right 31 = .ok (.invokestatic 64, 3) := by decide +kernel
theorem dX0_right_34 : decode cX0_right 34 = .ok (.aload_n 0, 1) := by decide +kernel
theorem dX0_right_35 : decode cX0_right 35 = .ok (.getfield 103, 3) := by decide +kernel
theorem dX0_right_38 : decode cX0_right 38 = .ok (.bipush 40, 2) := by decide +kernel
theorem dX0_right_40 : decode cX0_right 40 = .ok (.if_icmp .ge 7, 3) := by decide +kernel
theorem dX0_right_43 : decode cX0_right 43 = .ok (.iconst 1, 1) := by decide +kernel
theorem dX0_right_44 : decode cX0_right 44 = .ok (.goto 4, 3) := by decide +kernel
theorem dX0_right_47 : decode cX0_right 47 = .ok (.iconst 0, 1) := by decide +kernel
theorem dX0_right_48 : decode cX0_right 48 = .ok (.invokestatic 71, 3) := by decide +kernel
theorem dX0_right_51 : decode cX0_right 51 = .ok (.aload_n 0, 1) := by decide +kernel
theorem dX0_right_52 : decode cX0_right 52 = .ok (.getfield 103, 3) := by decide +kernel
theorem dX0_right_55 : decode cX0_right 55 = .ok (.istore 5, 2) := by decide +kernel
theorem dX0_right_57 : decode cX0_right 57 = .ok (.aload_n 0, 1) := by decide +kernel
theorem dX0_right_58 : decode cX0_right 58 = .ok (.getfield 31, 3) := by decide +kernel
theorem dX0_right_61 : decode cX0_right 61 = .ok (.iload 5, 2) := by decide +kernel
theorem dX0_right_63 : decode cX0_right 63 = .ok (.iload_n 1, 1) := by decide +kernel
theorem dX0_right_64 : decode cX0_right 64 = .ok (.iastore, 1) := by decide +kernel
theorem dX0_right_65 : decode cX0_right 65 = .ok (.aload_n 0, 1) := by decide +kernel
theorem dX0_right_66 : decode cX0_right 66 = .ok (.getfield 34, 3) := by decide +kernel
theorem dX0_right_69 : decode cX0_right 69 = .ok (.iload 5, 2) := by decide +kernel
theorem dX0_right_71 : decode cX0_right 71 = .ok (.iload_n 2, 1) := by decide +kernel
theorem dX0_right_72 : decode cX0_right 72 = .ok (.iastore, 1) := by decide +kernel
theorem dX0_right_73 : decode cX0_right 73 = .ok (.aload_n 0, 1) := by decide +kernel
theorem dX0_right_74 : decode cX0_right 74 = .ok (.getfield 37, 3) := by decide +kernel
theorem dX0_right_77 : decode cX0_right 77 = .ok (.iload 5, 2) := by decide +kernel
theorem dX0_right_79 : decode cX0_right 79 = .ok (.iload_n 3, 1) := by decide +kernel
theorem dX0_right_80 : decode cX0_right 80 = .ok (.iastore, 1) := by decide +kernel
theorem dX0_right_81 : decode cX0_right 81 = .ok (.aload_n 0, 1) := by decide +kernel
theorem dX0_right_82 : decode cX0_right 82 = .ok (.getfield 40, 3) := by decide +kernel
theorem dX0_right_85 : decode cX0_right 85 = .ok (.iload 5, 2) := by decide +kernel
theorem dX0_right_87 : decode cX0_right 87 = .ok (.iload 4, 2) := by decide +kernel
theorem dX0_right_89 : decode cX0_right 89 = .ok (.iastore, 1) := by decide +kernel
theorem dX0_right_90 : decode cX0_right 90 = .ok (.aload_n 0, 1) := by decide +kernel
theorem dX0_right_91 : decode cX0_right 91 = .ok (.dup, 1) := by decide +kernel
theorem dX0_right_92 : decode cX0_right 92 = .ok (.getfield 103, 3) := by decide +kernel
theorem dX0_right_95 : decode cX0_right 95 = .ok (.iconst 1, 1) := by decide +kernel
theorem dX0_right_96 : decode cX0_right 96 = .ok (.iadd, 1) := by decide +kernel
theorem dX0_right_97 : decode cX0_right 97 = .ok (.putfield 103, 3) := by decide +kernel
theorem dX0_right_100 : decode cX0_right 100 = .ok (.iload 5, 2) := by decide +kernel
theorem dX0_right_102 : decode cX0_right 102 = .ok (.ireturn, 1) := by decide +kernel
set_option maxRecDepth 20000 in
theorem ggX0_end_X0_isRight : GoodIn wsX0_end wsX0_isRight := goodIn_r _ [7, 8, 9, 10, 6, 11, 90, 91, 92, 93, 94, 95, 96, 97, 98, 99, 100, 101, 102, 103, 104, 105, 106, 107] (by decide +kernel) (by decide +kernel)
set_option maxRecDepth 20000 in
theorem gX0_end_X0_isRight : GoodIn wsX0_end (wsV RX0 106 RX0 yX0_isRight wsX0_isRight) := goodIn_app (goodIn_of _ (by decide +kernel)) ggX0_end_X0_isRight
set_option maxRecDepth 20000 in
theorem ggX0_end_X0_needIndex : GoodIn wsX0_end wsX0_needIndex := goodIn_ca (goodIn_r _ [14, 15, 16] (by decide +kernel) (by decide +kernel)) (goodIn_sub (fun _ h => List.mem_cons_of_mem _ (List.mem_append_left _ (List.mem_append_left _ (List.mem_append_right _ h)))) (by decide +kernel))
set_option maxRecDepth 20000 in
theorem gX0_end_X0_needIndex : GoodIn wsX0_end (va_wsS RX0 56 yX0_needIndex wsX0_needIndex) := goodIn_app (goodIn_of _ (by decide +kernel)) ggX0_end_X0_needIndex
set_option maxRecDepth 20000 in
theorem ggX0_end_X0_isBetween : GoodIn wsX0_end wsX0_isBetween := goodIn_r _ [11] (by decide +kernel) (by decide +kernel)
set_option maxRecDepth 20000 in
theorem gX0_end_X0_isBetween : GoodIn wsX0_end (va_wsS RX0 60 yX0_isBetween wsX0_isBetween) := goodIn_app (goodIn_of _ (by decide +kernel)) ggX0_end_X0_isBetween
set_option maxRecDepth 20000 in
theorem ggX0_end_X0_needArgument : GoodIn wsX0_end wsX0_needArgument := goodIn_ca (goodIn_r _ [19, 20, 21] (by decide +kernel) (by decide +kernel)) (goodIn_sub (fun _ h => List.mem_cons_of_mem _ (List.mem_append_left _ (List.mem_append_right _ h))) (by decide +kernel))
set_option maxRecDepth 20000 in
theorem gX0_end_X0_needArgument : GoodIn wsX0_end (va_wsS RX0 64 yX0_needArgument wsX0_needArgument) := goodIn_app (goodIn_of _ (by decide +kernel)) ggX0_end_X0_needArgument
set_option maxRecDepth 20000 in
theorem ggX0_end_X0_needState : GoodIn wsX0_end wsX0_needState := goodIn_ca (goodIn_r _ [24, 25, 26] (by decide +kernel) (by decide +kernel)) (goodIn_sub (fun _ h => List.mem_cons_of_mem _ (List.mem_append_right _ h)) (by decide +kernel))
set_option maxRecDepth 20000 in
theorem gX0_end_X0_needState : GoodIn wsX0_end (va_wsS RX0 71 yX0_needState wsX0_needState) := goodIn_app (goodIn_of _ (by decide +kernel)) ggX0_end_X0_needState
set_option maxRecDepth 20000 in
theorem ggX0_end_X0_silenceServicesWithoutRight : GoodIn wsX0_end wsX0_silenceServicesWithoutRight := goodIn_r _ [30, 31, 32, 33, 34, 35, 6, 36, 37, 1, 38, 39, 40, 41, 8, 42, 43, 44, 2, 9, 10, 11, 90, 91, 92, 93, 94, 95, 96, 97, 98, 99, 100, 101, 102, 103, 104, 105, 106, 107] (by decide +kernel) (by decide +kernel)
set_option maxRecDepth 20000 in
theorem gX0_end_X0_silenceServicesWithoutRight : GoodIn wsX0_end (wsV RX0 112 RX0 yX0_silenceServicesWithoutRight wsX0_silenceServicesWithoutRight) := goodIn_app (goodIn_of _ (by decide +kernel)) ggX0_end_X0_silenceServicesWithoutRight
set_option maxRecDepth 20000 in
theorem ggX0_end_X0_planEach : GoodIn wsX0_end wsX0_planEach := goodIn_r _ [48, 31, 49, 50, 6, 51, 52, 53, 54, 55, 32, 56, 37, 57, 58, 59, 60, 61, 62, 63, 64, 65, 66, 67, 68, 69, 70, 38, 39, 40, 41, 8, 42, 43, 44, 2, 9, 10, 11, 71, 72, 73, 74, 75, 76, 77, 78, 79, 80, 81, 82, 90, 91, 92, 93, 94, 95, 96, 97, 98, 99, 100, 101, 102, 103, 104, 105, 106, 107] (by decide +kernel) (by decide +kernel)
set_option maxRecDepth 20000 in
theorem gX0_end_X0_planEach : GoodIn wsX0_end (wsV RX0 116 RX0 yX0_planEach wsX0_planEach) := goodIn_app (goodIn_of _ (by decide +kernel)) ggX0_end_X0_planEach
set_option maxRecDepth 20000 in
theorem ggX0_end_J13_bitCount_95d88 : GoodIn wsX0_end wsJ13_bitCount_95d88 := goodIn_r _ [86, 87, 88, 89] (by decide +kernel) (by decide +kernel)
set_option maxRecDepth 20000 in
theorem gX0_end_J13_bitCount_95d88 : GoodIn wsX0_end (va_wsS RX0 120 yJ13_bitCount_95d88 wsJ13_bitCount_95d88) := goodIn_app (goodIn_of _ (by decide +kernel)) ggX0_end_J13_bitCount_95d88
theorem dX0_end_0 : decode cX0_end 0 = .ok (.aload_n 0, 1) := by decide +kernel
theorem dX0_end_1 : decode cX0_end 1 = .ok (.iload_n 1, 1) := by decide +kernel
theorem dX0_end_2 : decode cX0_end 2 = .ok (.invokevirtual 106, 3) := by decide +kernel
theorem dX0_end_5 : decode cX0_end 5 = .ok (.invokestatic 56, 3) := by decide +kernel
theorem dX0_end_8 : decode cX0_end 8 = .ok (.iload_n 2, 1) := by decide +kernel
theorem dX0_end_9 : decode cX0_end 9 = .ok (.aload_n 0, 1) := by decide +kernel
theorem dX0_end_10 : decode cX0_end 10 = .ok (.getfield 109, 3) := by decide +kernel
theorem dX0_end_13 : decode cX0_end 13 = .ok (.iconst 1, 1) := by decide +kernel
theorem dX0_end_14 : decode cX0_end 14 = .ok (.isub, 1) := by decide +kernel
theorem dX0_end_15 : decode cX0_end 15 = .ok (.sipush 1459, 3) := by decide +kernel
theorem dX0_end_18 : decode cX0_end 18 = .ok (.invokestatic 60, 3) := by decide +kernel
theorem dX0_end_21 : decode cX0_end 21 = .ok (.invokestatic 64, 3) := by decide +kernel
theorem dX0_end_24 : decode cX0_end 24 = .ok (.aload_n 0, 1) := by decide +kernel
theorem dX0_end_25 : decode cX0_end 25 = .ok (.getfield 40, 3) := by decide +kernel
theorem dX0_end_28 : decode cX0_end 28 = .ok (.iload_n 1, 1) := by decide +kernel
theorem dX0_end_29 : decode cX0_end 29 = .ok (.iaload, 1) := by decide +kernel
theorem dX0_end_30 : decode cX0_end 30 = .ok (.iload_n 2, 1) := by decide +kernel
theorem dX0_end_31 : decode cX0_end 31 = .ok (.if_icmp .le 7, 3) := by decide +kernel
theorem dX0_end_34 : decode cX0_end 34 = .ok (.iconst 1, 1) := by decide +kernel
theorem dX0_end_35 : decode cX0_end 35 = .ok (.goto 4, 3) := by decide +kernel
theorem dX0_end_38 : decode cX0_end 38 = .ok (.iconst 0, 1) := by decide +kernel
theorem dX0_end_39 : decode cX0_end 39 = .ok (.invokestatic 71, 3) := by decide +kernel
theorem dX0_end_42 : decode cX0_end 42 = .ok (.aload_n 0, 1) := by decide +kernel
theorem dX0_end_43 : decode cX0_end 43 = .ok (.getfield 40, 3) := by decide +kernel
theorem dX0_end_46 : decode cX0_end 46 = .ok (.iload_n 1, 1) := by decide +kernel
theorem dX0_end_47 : decode cX0_end 47 = .ok (.iload_n 2, 1) := by decide +kernel
theorem dX0_end_48 : decode cX0_end 48 = .ok (.iastore, 1) := by decide +kernel
theorem dX0_end_49 : decode cX0_end 49 = .ok (.aload_n 0, 1) := by decide +kernel
theorem dX0_end_50 : decode cX0_end 50 = .ok (.invokevirtual 112, 3) := by decide +kernel
theorem dX0_end_53 : decode cX0_end 53 = .ok (.lstore_n 3, 1) := by decide +kernel
theorem dX0_end_54 : decode cX0_end 54 = .ok (.aload_n 0, 1) := by decide +kernel
theorem dX0_end_55 : decode cX0_end 55 = .ok (.lload_n 3, 1) := by decide +kernel
theorem dX0_end_56 : decode cX0_end 56 = .ok (.invokevirtual 116, 3) := by decide +kernel
theorem dX0_end_59 : decode cX0_end 59 = .ok (.lload_n 3, 1) := by decide +kernel
theorem dX0_end_60 : decode cX0_end 60 = .ok (.invokestatic 120, 3) := by decide +kernel
theorem dX0_end_63 : decode cX0_end 63 = .ok (.ireturn, 1) := by decide +kernel
set_option maxRecDepth 20000 in
theorem ggX0_hasRight_X0_isHymn : GoodIn wsX0_hasRight wsX0_isHymn := goodIn_r _ [5, 6, 7, 8, 4, 9, 35, 36, 37, 38, 39, 40, 41, 42, 43, 44, 45, 46, 47, 48, 49, 50, 51, 52] (by decide +kernel) (by decide +kernel)
set_option maxRecDepth 20000 in
theorem gX0_hasRight_X0_isHymn : GoodIn wsX0_hasRight (wsV RX0 78 RX0 yX0_isHymn wsX0_isHymn) := goodIn_app (goodIn_of _ (by decide +kernel)) ggX0_hasRight_X0_isHymn
set_option maxRecDepth 20000 in
theorem ggX0_hasRight_X0_needIndex : GoodIn wsX0_hasRight wsX0_needIndex := goodIn_ca (goodIn_r _ [12, 13, 14] (by decide +kernel) (by decide +kernel)) (goodIn_sub (fun _ h => List.mem_cons_of_mem _ (List.mem_append_left _ (List.mem_append_right _ h))) (by decide +kernel))
set_option maxRecDepth 20000 in
theorem gX0_hasRight_X0_needIndex : GoodIn wsX0_hasRight (va_wsS RX0 56 yX0_needIndex wsX0_needIndex) := goodIn_app (goodIn_of _ (by decide +kernel)) ggX0_hasRight_X0_needIndex
set_option maxRecDepth 20000 in
theorem ggX0_hasRight_X0_isUse : GoodIn wsX0_hasRight wsX0_isUse := goodIn_r _ [17, 7, 8, 4, 9] (by decide +kernel) (by decide +kernel)
set_option maxRecDepth 20000 in
theorem gX0_hasRight_X0_isUse : GoodIn wsX0_hasRight (va_wsS RX0 97 yX0_isUse wsX0_isUse) := goodIn_app (goodIn_of _ (by decide +kernel)) ggX0_hasRight_X0_isUse
set_option maxRecDepth 20000 in
theorem ggX0_hasRight_X0_isDay : GoodIn wsX0_hasRight wsX0_isDay := goodIn_r _ [20, 7, 8, 4, 9] (by decide +kernel) (by decide +kernel)
set_option maxRecDepth 20000 in
theorem gX0_hasRight_X0_isDay : GoodIn wsX0_hasRight (va_wsS RX0 100 yX0_isDay wsX0_isDay) := goodIn_app (goodIn_of _ (by decide +kernel)) ggX0_hasRight_X0_isDay
set_option maxRecDepth 20000 in
theorem ggX0_hasRight_X0_needArgument : GoodIn wsX0_hasRight wsX0_needArgument := goodIn_ca (goodIn_r _ [23, 24, 25] (by decide +kernel) (by decide +kernel)) (goodIn_sub (fun _ h => List.mem_cons_of_mem _ (List.mem_append_right _ h)) (by decide +kernel))
set_option maxRecDepth 20000 in
theorem gX0_hasRight_X0_needArgument : GoodIn wsX0_hasRight (va_wsS RX0 64 yX0_needArgument wsX0_needArgument) := goodIn_app (goodIn_of _ (by decide +kernel)) ggX0_hasRight_X0_needArgument
set_option maxRecDepth 20000 in
theorem ggX0_hasRight_X0_isAllowed : GoodIn wsX0_hasRight wsX0_isAllowed := goodIn_r _ [29, 30, 31, 32, 33, 34, 7, 8, 4, 9, 35, 36, 37, 38, 39, 40, 41, 42, 43, 44, 45, 46, 47, 48, 49, 50, 51, 52] (by decide +kernel) (by decide +kernel)
set_option maxRecDepth 20000 in
theorem gX0_hasRight_X0_isAllowed : GoodIn wsX0_hasRight (wsV RX0 125 RX0 yX0_isAllowed wsX0_isAllowed) := goodIn_app (goodIn_of _ (by decide +kernel)) ggX0_hasRight_X0_isAllowed
theorem dX0_hasRight_0 : decode cX0_hasRight 0 = .ok (.aload_n 0, 1) := by decide +kernel
theorem dX0_hasRight_1 : decode cX0_hasRight 1 = .ok (.iload_n 1, 1) := by decide +kernel
theorem dX0_hasRight_2 : decode cX0_hasRight 2 = .ok (.invokevirtual 78, 3) := by decide +kernel
theorem dX0_hasRight_5 : decode cX0_hasRight 5 = .ok (.invokestatic 56, 3) := by decide +kernel
theorem dX0_hasRight_8 : decode cX0_hasRight 8 = .ok (.iload_n 2, 1) := by decide +kernel
theorem dX0_hasRight_9 : decode cX0_hasRight 9 = .ok (.invokestatic 97, 3) := by decide +kernel
theorem dX0_hasRight_12 : decode cX0_hasRight 12 = .ok (.invokestatic 56, 3) := by decide +kernel
theorem dX0_hasRight_15 : decode cX0_hasRight 15 = .ok (.iload_n 3, 1) := by decide +kernel
theorem dX0_hasRight_16 : decode cX0_hasRight 16 = .ok (.invokestatic 100, 3) := by decide +kernel
theorem dX0_hasRight_19 : decode cX0_hasRight 19 = .ok (.invokestatic 64, 3) := by decide +kernel
theorem dX0_hasRight_22 : decode cX0_hasRight 22 = .ok (.aload_n 0, 1) := by decide +kernel
theorem dX0_hasRight_23 : decode cX0_hasRight 23 = .ok (.iload_n 1, 1) := by decide +kernel
theorem dX0_hasRight_24 : decode cX0_hasRight 24 = .ok (.iload_n 2, 1) := by decide +kernel
theorem dX0_hasRight_25 : decode cX0_hasRight 25 = .ok (.iload_n 3, 1) := by decide +kernel
theorem dX0_hasRight_26 : decode cX0_hasRight 26 = .ok (.invokevirtual 125, 3) := by decide +kernel
theorem dX0_hasRight_29 : decode cX0_hasRight 29 = .ok (.ireturn, 1) := by decide +kernel
set_option maxRecDepth 20000 in
theorem ggX0_print_X0_isHymn : GoodIn wsX0_print wsX0_isHymn := goodIn_r _ [7, 8, 9, 10, 6, 11, 51, 52, 53, 54, 55, 56, 57, 58, 59, 60, 61, 62, 63, 64, 65, 66, 67, 68] (by decide +kernel) (by decide +kernel)
set_option maxRecDepth 20000 in
theorem gX0_print_X0_isHymn : GoodIn wsX0_print (wsV RX0 78 RX0 yX0_isHymn wsX0_isHymn) := goodIn_app (goodIn_of _ (by decide +kernel)) ggX0_print_X0_isHymn
set_option maxRecDepth 20000 in
theorem ggX0_print_X0_needIndex : GoodIn wsX0_print wsX0_needIndex := goodIn_ca (goodIn_r _ [14, 15, 16] (by decide +kernel) (by decide +kernel)) (goodIn_sub (fun _ h => List.mem_cons_of_mem _ (List.mem_append_left _ (List.mem_append_left _ (List.mem_append_right _ h)))) (by decide +kernel))
set_option maxRecDepth 20000 in
theorem gX0_print_X0_needIndex : GoodIn wsX0_print (va_wsS RX0 56 yX0_needIndex wsX0_needIndex) := goodIn_app (goodIn_of _ (by decide +kernel)) ggX0_print_X0_needIndex
set_option maxRecDepth 20000 in
theorem ggX0_print_X0_isBetween : GoodIn wsX0_print wsX0_isBetween := goodIn_r _ [11] (by decide +kernel) (by decide +kernel)
set_option maxRecDepth 20000 in
theorem gX0_print_X0_isBetween : GoodIn wsX0_print (va_wsS RX0 60 yX0_isBetween wsX0_isBetween) := goodIn_app (goodIn_of _ (by decide +kernel)) ggX0_print_X0_isBetween
set_option maxRecDepth 20000 in
theorem ggX0_print_X0_needArgument : GoodIn wsX0_print wsX0_needArgument := goodIn_ca (goodIn_r _ [19, 20, 21] (by decide +kernel) (by decide +kernel)) (goodIn_sub (fun _ h => List.mem_cons_of_mem _ (List.mem_append_left _ (List.mem_append_right _ h))) (by decide +kernel))
set_option maxRecDepth 20000 in
theorem gX0_print_X0_needArgument : GoodIn wsX0_print (va_wsS RX0 64 yX0_needArgument wsX0_needArgument) := goodIn_app (goodIn_of _ (by decide +kernel)) ggX0_print_X0_needArgument
set_option maxRecDepth 20000 in
theorem ggX0_print_X0_isAllowed : GoodIn wsX0_print wsX0_isAllowed := goodIn_r _ [25, 26, 27, 28, 29, 30, 9, 10, 6, 11, 51, 52, 53, 54, 55, 56, 57, 58, 59, 60, 61, 62, 63, 64, 65, 66, 67, 68] (by decide +kernel) (by decide +kernel)
set_option maxRecDepth 20000 in
theorem gX0_print_X0_isAllowed : GoodIn wsX0_print (wsV RX0 125 RX0 yX0_isAllowed wsX0_isAllowed) := goodIn_app (goodIn_of _ (by decide +kernel)) ggX0_print_X0_isAllowed
set_option maxRecDepth 20000 in
theorem ggX0_print_X0_needState : GoodIn wsX0_print wsX0_needState := goodIn_ca (goodIn_r _ [33, 34, 35] (by decide +kernel) (by decide +kernel)) (goodIn_sub (fun _ h => List.mem_cons_of_mem _ (List.mem_append_right _ h)) (by decide +kernel))
set_option maxRecDepth 20000 in
theorem gX0_print_X0_needState : GoodIn wsX0_print (va_wsS RX0 71 yX0_needState wsX0_needState) := goodIn_app (goodIn_of _ (by decide +kernel)) ggX0_print_X0_needState
set_option maxRecDepth 20000 in
theorem ggX0_print_X0_yearOf : GoodIn wsX0_print wsX0_yearOf := goodIn_r _ [38] (by decide +kernel) (by decide +kernel)
set_option maxRecDepth 20000 in
theorem gX0_print_X0_yearOf : GoodIn wsX0_print (va_wsS RX0 128 yX0_yearOf wsX0_yearOf) := goodIn_app (goodIn_of _ (by decide +kernel)) ggX0_print_X0_yearOf
set_option maxRecDepth 20000 in
theorem ggX0_print_X0_pageCount : GoodIn wsX0_print wsX0_pageCount := goodIn_r _ [42, 43, 44, 45, 46, 47, 48, 49, 50, 51, 52, 53, 54, 55, 56, 57, 58, 59, 60, 61, 62, 63, 64, 65, 66, 67, 68] (by decide +kernel) (by decide +kernel)
set_option maxRecDepth 20000 in
theorem gX0_print_X0_pageCount : GoodIn wsX0_print (wsV RX0 81 RX0 yX0_pageCount wsX0_pageCount) := goodIn_app (goodIn_of _ (by decide +kernel)) ggX0_print_X0_pageCount
theorem dX0_print_0 : decode cX0_print 0 = .ok (.aload_n 0, 1) := by decide +kernel
theorem dX0_print_1 : decode cX0_print 1 = .ok (.iload_n 1, 1) := by decide +kernel
theorem dX0_print_2 : decode cX0_print 2 = .ok (.invokevirtual 78, 3) := by decide +kernel
theorem dX0_print_5 : decode cX0_print 5 = .ok (.invokestatic 56, 3) := by decide +kernel
theorem dX0_print_8 : decode cX0_print 8 = .ok (.iload_n 2, 1) := by decide +kernel
theorem dX0_print_9 : decode cX0_print 9 = .ok (.iconst 1, 1) := by decide +kernel
theorem dX0_print_10 : decode cX0_print 10 = .ok (.sipush 1000, 3) := by decide +kernel
theorem dX0_print_13 : decode cX0_print 13 = .ok (.invokestatic 60, 3) := by decide +kernel
theorem dX0_print_16 : decode cX0_print 16 = .ok (.invokestatic 64, 3) := by decide +kernel
theorem dX0_print_19 : decode cX0_print 19 = .ok (.aload_n 0, 1) := by decide +kernel
theorem dX0_print_20 : decode cX0_print 20 = .ok (.iload_n 1, 1) := by decide +kernel
theorem dX0_print_21 : decode cX0_print 21 = .ok (.iconst 1, 1) := by decide +kernel
theorem dX0_print_22 : decode cX0_print 22 = .ok (.aload_n 0, 1) := by decide +kernel
theorem dX0_print_23 : decode cX0_print 23 = .ok (.getfield 109, 3) := by decide +kernel
theorem dX0_print_26 : decode cX0_print 26 = .ok (.invokevirtual 125, 3) := by decide +kernel
theorem dX0_print_29 : decode cX0_print 29 = .ok (.invokestatic 71, 3) := by decide +kernel
theorem dX0_print_32 : decode cX0_print 32 = .ok (.aload_n 0, 1) := by decide +kernel
theorem dX0_print_33 : decode cX0_print 33 = .ok (.getfield 28, 3) := by decide +kernel
theorem dX0_print_36 : decode cX0_print 36 = .ok (.iload_n 1, 1) := by decide +kernel
theorem dX0_print_37 : decode cX0_print 37 = .ok (.iconst 4, 1) := by decide +kernel
theorem dX0_print_38 : decode cX0_print 38 = .ok (.imul, 1) := by decide +kernel
theorem dX0_print_39 : decode cX0_print 39 = .ok (.aload_n 0, 1) := by decide +kernel
theorem dX0_print_40 : decode cX0_print 40 = .ok (.getfield 109, 3) := by decide +kernel
theorem dX0_print_43 : decode cX0_print 43 = .ok (.invokestatic 128, 3) := by decide +kernel
theorem dX0_print_46 : decode cX0_print 46 = .ok (.iadd, 1) := by decide +kernel
theorem dX0_print_47 : decode cX0_print 47 = .ok (.dup2, 1) := by decide +kernel
theorem dX0_print_48 : decode cX0_print 48 = .ok (.iaload, 1) := by decide +kernel
theorem dX0_print_49 : decode cX0_print 49 = .ok (.iload_n 2, 1) := by decide +kernel
theorem dX0_print_50 : decode cX0_print 50 = .ok (.iadd, 1) := by decide +kernel
theorem dX0_print_51 : decode cX0_print 51 = .ok (.iastore, 1) := by decide +kernel
theorem dX0_print_52 : decode cX0_print 52 = .ok (.iload_n 2, 1) := by decide +kernel
theorem dX0_print_53 : decode cX0_print 53 = .ok (.aload_n 0, 1) := by decide +kernel
theorem dX0_print_54 : decode cX0_print 54 = .ok (.iload_n 1, 1) := by decide +kernel
theorem dX0_print_55 : decode cX0_print 55 = .ok (.invokevirtual 81, 3) := by decide +kernel
theorem dX0_print_58 : decode cX0_print 58 = .ok (.imul, 1) := by decide +kernel
theorem dX0_print_59 : decode cX0_print 59 = .ok (.ireturn, 1) := by decide +kernel
set_option maxRecDepth 20000 in
theorem ggX0_printed_X0_isHymn : GoodIn wsX0_printed wsX0_isHymn := goodIn_r _ [6, 7, 8, 9, 5, 10, 19, 20, 21, 22, 23, 24, 25, 26, 27, 28, 29, 30, 31, 32, 33, 34, 35, 36] (by decide +kernel) (by decide +kernel)
set_option maxRecDepth 20000 in
theorem gX0_printed_X0_isHymn : GoodIn wsX0_printed (wsV RX0 78 RX0 yX0_isHymn wsX0_isHymn) := goodIn_app (goodIn_of _ (by decide +kernel)) ggX0_printed_X0_isHymn
set_option maxRecDepth 20000 in
theorem ggX0_printed_X0_needIndex : GoodIn wsX0_printed wsX0_needIndex := goodIn_ca (goodIn_r _ [13, 14, 15] (by decide +kernel) (by decide +kernel)) (goodIn_sub (fun _ h => List.mem_cons_of_mem _ (List.mem_append_right _ h)) (by decide +kernel))
set_option maxRecDepth 20000 in
theorem gX0_printed_X0_needIndex : GoodIn wsX0_printed (va_wsS RX0 56 yX0_needIndex wsX0_needIndex) := goodIn_app (goodIn_of _ (by decide +kernel)) ggX0_printed_X0_needIndex
set_option maxRecDepth 20000 in
theorem ggX0_printed_X0_isYear : GoodIn wsX0_printed wsX0_isYear := goodIn_r _ [18, 8, 9, 5, 10] (by decide +kernel) (by decide +kernel)
set_option maxRecDepth 20000 in
theorem gX0_printed_X0_isYear : GoodIn wsX0_printed (va_wsS RX0 131 yX0_isYear wsX0_isYear) := goodIn_app (goodIn_of _ (by decide +kernel)) ggX0_printed_X0_isYear
theorem dX0_printed_0 : decode cX0_printed 0 = .ok (.aload_n 0, 1) := by decide +kernel
theorem dX0_printed_1 : decode cX0_printed 1 = .ok (.iload_n 1, 1) := by decide +kernel
theorem dX0_printed_2 : decode cX0_printed 2 = .ok (.invokevirtual 78, 3) := by decide +kernel
theorem dX0_printed_5 : decode cX0_printed 5 = .ok (.invokestatic 56, 3) := by decide +kernel
theorem dX0_printed_8 : decode cX0_printed 8 = .ok (.iload_n 2, 1) := by decide +kernel
theorem dX0_printed_9 : decode cX0_printed 9 = .ok (.invokestatic 131, 3) := by decide +kernel
theorem dX0_printed_12 : decode cX0_printed 12 = .ok (.invokestatic 56, 3) := by decide +kernel
theorem dX0_printed_15 : decode cX0_printed 15 = .ok (.aload_n 0, 1) := by decide +kernel
theorem dX0_printed_16 : decode cX0_printed 16 = .ok (.getfield 28, 3) := by decide +kernel
theorem dX0_printed_19 : decode cX0_printed 19 = .ok (.iload_n 1, 1) := by decide +kernel
theorem dX0_printed_20 : decode cX0_printed 20 = .ok (.iconst 4, 1) := by decide +kernel
theorem dX0_printed_21 : decode cX0_printed 21 = .ok (.imul, 1) := by decide +kernel
theorem dX0_printed_22 : decode cX0_printed 22 = .ok (.iload_n 2, 1) := by decide +kernel
theorem dX0_printed_23 : decode cX0_printed 23 = .ok (.iadd, 1) := by decide +kernel
theorem dX0_printed_24 : decode cX0_printed 24 = .ok (.iaload, 1) := by decide +kernel
theorem dX0_printed_25 : decode cX0_printed 25 = .ok (.ireturn, 1) := by decide +kernel
set_option maxRecDepth 20000 in
theorem ggX0_isAllowed_X0_isBetween : GoodIn wsX0_isAllowed wsX0_isBetween := goodIn_r _ [9] (by decide +kernel) (by decide +kernel)
set_option maxRecDepth 20000 in
theorem gX0_isAllowed_X0_isBetween : GoodIn wsX0_isAllowed (va_wsS RX0 60 yX0_isBetween wsX0_isBetween) := goodIn_app (goodIn_of _ (by decide +kernel)) ggX0_isAllowed_X0_isBetween
theorem dX0_isAllowed_0 : decode cX0_isAllowed 0 = .ok (.iconst 0, 1) := by decide +kernel
theorem dX0_isAllowed_1 : decode cX0_isAllowed 1 = .ok (.istore 4, 2) := by decide +kernel
theorem dX0_isAllowed_3 : decode cX0_isAllowed 3 = .ok (.iload 4, 2) := by decide +kernel
theorem dX0_isAllowed_5 : decode cX0_isAllowed 5 = .ok (.aload_n 0, 1) := by decide +kernel
theorem dX0_isAllowed_6 : decode cX0_isAllowed 6 = .ok (.getfield 103, 3) := by decide +kernel
theorem dX0_isAllowed_9 : decode cX0_isAllowed 9 = .ok (.if_icmp .ge 54, 3) := by decide +kernel
theorem dX0_isAllowed_12 : decode cX0_isAllowed 12 = .ok (.aload_n 0, 1) := by decide +kernel
theorem dX0_isAllowed_13 : decode cX0_isAllowed 13 = .ok (.getfield 31, 3) := by decide +kernel
theorem dX0_isAllowed_16 : decode cX0_isAllowed 16 = .ok (.iload 4, 2) := by decide +kernel
theorem dX0_isAllowed_18 : decode cX0_isAllowed 18 = .ok (.iaload, 1) := by decide +kernel
theorem dX0_isAllowed_19 : decode cX0_isAllowed 19 = .ok (.iload_n 1, 1) := by decide +kernel
theorem dX0_isAllowed_20 : decode cX0_isAllowed 20 = .ok (.if_icmp .ne 37, 3) := by decide +kernel
theorem dX0_isAllowed_23 : decode cX0_isAllowed 23 = .ok (.aload_n 0, 1) := by decide +kernel
theorem dX0_isAllowed_24 : decode cX0_isAllowed 24 = .ok (.getfield 34, 3) := by decide +kernel
theorem dX0_isAllowed_27 : decode cX0_isAllowed 27 = .ok (.iload 4, 2) := by decide +kernel
theorem dX0_isAllowed_29 : decode cX0_isAllowed 29 = .ok (.iaload, 1) := by decide +kernel
theorem dX0_isAllowed_30 : decode cX0_isAllowed 30 = .ok (.iload_n 2, 1) := by decide +kernel
theorem dX0_isAllowed_31 : decode cX0_isAllowed 31 = .ok (.if_icmp .ne 26, 3) := by decide +kernel
theorem dX0_isAllowed_34 : decode cX0_isAllowed 34 = .ok (.iload_n 3, 1) := by decide +kernel
theorem dX0_isAllowed_35 : decode cX0_isAllowed 35 = .ok (.aload_n 0, 1) := by decide +kernel
theorem dX0_isAllowed_36 : decode cX0_isAllowed 36 = .ok (.getfield 37, 3) := by decide +kernel
theorem dX0_isAllowed_39 : decode cX0_isAllowed 39 = .ok (.iload 4, 2) := by decide +kernel
theorem dX0_isAllowed_41 : decode cX0_isAllowed 41 = .ok (.iaload, 1) := by decide +kernel
theorem dX0_isAllowed_42 : decode cX0_isAllowed 42 = .ok (.aload_n 0, 1) := by decide +kernel
theorem dX0_isAllowed_43 : decode cX0_isAllowed 43 = .ok (.getfield 40, 3) := by decide +kernel
theorem dX0_isAllowed_46 : decode cX0_isAllowed 46 = .ok (.iload 4, 2) := by decide +kernel
theorem dX0_isAllowed_48 : decode cX0_isAllowed 48 = .ok (.iaload, 1) := by decide +kernel
theorem dX0_isAllowed_49 : decode cX0_isAllowed 49 = .ok (.invokestatic 60, 3) := by decide +kernel
theorem dX0_isAllowed_52 : decode cX0_isAllowed 52 = .ok (.ifCond .eq 5, 3) := by decide +kernel
theorem dX0_isAllowed_55 : decode cX0_isAllowed 55 = .ok (.iconst 1, 1) := by decide +kernel
theorem dX0_isAllowed_56 : decode cX0_isAllowed 56 = .ok (.ireturn, 1) := by decide +kernel
theorem dX0_isAllowed_57 : decode cX0_isAllowed 57 = .ok (.iinc 4 1, 3) := by decide +kernel
theorem dX0_isAllowed_60 : decode cX0_isAllowed 60 = .ok (.goto (-57), 3) := by decide +kernel
theorem dX0_isAllowed_63 : decode cX0_isAllowed 63 = .ok (.iconst 0, 1) := by decide +kernel
theorem dX0_isAllowed_64 : decode cX0_isAllowed 64 = .ok (.ireturn, 1) := by decide +kernel
set_option maxRecDepth 20000 in
theorem ggX0_learn_X0_isChoir : GoodIn wsX0_learn wsX0_isChoir := goodIn_r _ [5, 6, 7, 4, 8] (by decide +kernel) (by decide +kernel)
set_option maxRecDepth 20000 in
theorem gX0_learn_X0_isChoir : GoodIn wsX0_learn (va_wsS RX0 134 yX0_isChoir wsX0_isChoir) := goodIn_app (goodIn_of _ (by decide +kernel)) ggX0_learn_X0_isChoir
set_option maxRecDepth 20000 in
theorem ggX0_learn_X0_needIndex : GoodIn wsX0_learn wsX0_needIndex := goodIn_ca (goodIn_r _ [11, 12, 13] (by decide +kernel) (by decide +kernel)) (goodIn_sub (fun _ h => List.mem_cons_of_mem _ (List.mem_append_right _ h)) (by decide +kernel))
set_option maxRecDepth 20000 in
theorem gX0_learn_X0_needIndex : GoodIn wsX0_learn (va_wsS RX0 56 yX0_needIndex wsX0_needIndex) := goodIn_app (goodIn_of _ (by decide +kernel)) ggX0_learn_X0_needIndex
set_option maxRecDepth 20000 in
theorem ggX0_learn_X0_isHymn : GoodIn wsX0_learn wsX0_isHymn := goodIn_r _ [17, 18, 6, 7, 4, 8, 22, 23, 24, 25, 26, 27, 28, 29, 30, 31, 32, 33, 34, 35, 36, 37, 38, 39] (by decide +kernel) (by decide +kernel)
set_option maxRecDepth 20000 in
theorem gX0_learn_X0_isHymn : GoodIn wsX0_learn (wsV RX0 78 RX0 yX0_isHymn wsX0_isHymn) := goodIn_app (goodIn_of _ (by decide +kernel)) ggX0_learn_X0_isHymn
set_option maxRecDepth 20000 in
theorem ggX0_learn_X0_isInSet : GoodIn wsX0_learn wsX0_isInSet := goodIn_r _ [21] (by decide +kernel) (by decide +kernel)
set_option maxRecDepth 20000 in
theorem gX0_learn_X0_isInSet : GoodIn wsX0_learn (va_wsS RX0 93 yX0_isInSet wsX0_isInSet) := goodIn_app (goodIn_of _ (by decide +kernel)) ggX0_learn_X0_isInSet
theorem dX0_learn_0 : decode cX0_learn 0 = .ok (.iload_n 1, 1) := by decide +kernel
theorem dX0_learn_1 : decode cX0_learn 1 = .ok (.invokestatic 134, 3) := by decide +kernel
theorem dX0_learn_4 : decode cX0_learn 4 = .ok (.invokestatic 56, 3) := by decide +kernel
theorem dX0_learn_7 : decode cX0_learn 7 = .ok (.aload_n 0, 1) := by decide +kernel
theorem dX0_learn_8 : decode cX0_learn 8 = .ok (.iload_n 2, 1) := by decide +kernel
theorem dX0_learn_9 : decode cX0_learn 9 = .ok (.invokevirtual 78, 3) := by decide +kernel
theorem dX0_learn_12 : decode cX0_learn 12 = .ok (.invokestatic 56, 3) := by decide +kernel
theorem dX0_learn_15 : decode cX0_learn 15 = .ok (.aload_n 0, 1) := by decide +kernel
theorem dX0_learn_16 : decode cX0_learn 16 = .ok (.getfield 25, 3) := by decide +kernel
theorem dX0_learn_19 : decode cX0_learn 19 = .ok (.iload_n 2, 1) := by decide +kernel
theorem dX0_learn_20 : decode cX0_learn 20 = .ok (.dup2, 1) := by decide +kernel
theorem dX0_learn_21 : decode cX0_learn 21 = .ok (.iaload, 1) := by decide +kernel
theorem dX0_learn_22 : decode cX0_learn 22 = .ok (.iconst 1, 1) := by decide +kernel
theorem dX0_learn_23 : decode cX0_learn 23 = .ok (.iload_n 1, 1) := by decide +kernel
theorem dX0_learn_24 : decode cX0_learn 24 = .ok (.ishl, 1) := by decide +kernel
theorem dX0_learn_25 : decode cX0_learn 25 = .ok (.ixor, 1) := by decide +kernel
theorem dX0_learn_26 : decode cX0_learn 26 = .ok (.iastore, 1) := by decide +kernel
theorem dX0_learn_27 : decode cX0_learn 27 = .ok (.iload_n 1, 1) := by decide +kernel
theorem dX0_learn_28 : decode cX0_learn 28 = .ok (.aload_n 0, 1) := by decide +kernel
theorem dX0_learn_29 : decode cX0_learn 29 = .ok (.getfield 25, 3) := by decide +kernel
theorem dX0_learn_32 : decode cX0_learn 32 = .ok (.iload_n 2, 1) := by decide +kernel
theorem dX0_learn_33 : decode cX0_learn 33 = .ok (.iaload, 1) := by decide +kernel
theorem dX0_learn_34 : decode cX0_learn 34 = .ok (.i2l, 1) := by decide +kernel
theorem dX0_learn_35 : decode cX0_learn 35 = .ok (.invokestatic 93, 3) := by decide +kernel
theorem dX0_learn_38 : decode cX0_learn 38 = .ok (.ireturn, 1) := by decide +kernel
set_option maxRecDepth 20000 in
theorem ggX0_service_X0_isChoir : GoodIn wsX0_service wsX0_isChoir := goodIn_r _ [8, 9, 10, 7, 11] (by decide +kernel) (by decide +kernel)
set_option maxRecDepth 20000 in
theorem gX0_service_X0_isChoir : GoodIn wsX0_service (va_wsS RX0 134 yX0_isChoir wsX0_isChoir) := goodIn_app (goodIn_of _ (by decide +kernel)) ggX0_service_X0_isChoir
set_option maxRecDepth 20000 in
theorem ggX0_service_X0_needIndex : GoodIn wsX0_service wsX0_needIndex := goodIn_ca (goodIn_r _ [14, 15, 16] (by decide +kernel) (by decide +kernel)) (goodIn_sub (fun _ h => List.mem_cons_of_mem _ (List.mem_append_left _ (List.mem_append_left _ (List.mem_append_right _ h)))) (by decide +kernel))
set_option maxRecDepth 20000 in
theorem gX0_service_X0_needIndex : GoodIn wsX0_service (va_wsS RX0 56 yX0_needIndex wsX0_needIndex) := goodIn_app (goodIn_of _ (by decide +kernel)) ggX0_service_X0_needIndex
set_option maxRecDepth 20000 in
theorem ggX0_service_X0_isBetween : GoodIn wsX0_service wsX0_isBetween := goodIn_r _ [11] (by decide +kernel) (by decide +kernel)
set_option maxRecDepth 20000 in
theorem gX0_service_X0_isBetween : GoodIn wsX0_service (va_wsS RX0 60 yX0_isBetween wsX0_isBetween) := goodIn_app (goodIn_of _ (by decide +kernel)) ggX0_service_X0_isBetween
set_option maxRecDepth 20000 in
theorem ggX0_service_X0_needArgument : GoodIn wsX0_service wsX0_needArgument := goodIn_ca (goodIn_r _ [19, 20, 21] (by decide +kernel) (by decide +kernel)) (goodIn_sub (fun _ h => List.mem_cons_of_mem _ (List.mem_append_left _ (List.mem_append_right _ h))) (by decide +kernel))
set_option maxRecDepth 20000 in
theorem gX0_service_X0_needArgument : GoodIn wsX0_service (va_wsS RX0 64 yX0_needArgument wsX0_needArgument) := goodIn_app (goodIn_of _ (by decide +kernel)) ggX0_service_X0_needArgument
set_option maxRecDepth 20000 in
theorem ggX0_service_X0_needState : GoodIn wsX0_service wsX0_needState := goodIn_ca (goodIn_r _ [24, 25, 26] (by decide +kernel) (by decide +kernel)) (goodIn_sub (fun _ h => List.mem_cons_of_mem _ (List.mem_append_right _ h)) (by decide +kernel))
set_option maxRecDepth 20000 in
theorem gX0_service_X0_needState : GoodIn wsX0_service (va_wsS RX0 71 yX0_needState wsX0_needState) := goodIn_app (goodIn_of _ (by decide +kernel)) ggX0_service_X0_needState
set_option maxRecDepth 20000 in
theorem ggX0_service_X0_hasServiceOn : GoodIn wsX0_service wsX0_hasServiceOn := goodIn_r _ [30, 2, 3, 4, 74, 75, 76, 77, 78, 79, 80, 81, 82, 83, 84, 85, 86, 87, 88, 89, 90, 91] (by decide +kernel) (by decide +kernel)
set_option maxRecDepth 20000 in
theorem gX0_service_X0_hasServiceOn : GoodIn wsX0_service (wsV RX0 140 RX0 yX0_hasServiceOn wsX0_hasServiceOn) := goodIn_app (goodIn_of _ (by decide +kernel)) ggX0_service_X0_hasServiceOn
set_option maxRecDepth 20000 in
theorem ggX0_service_X0_planAnew : GoodIn wsX0_service wsX0_planAnew := goodIn_r _ [34, 35, 3, 4, 36, 37, 38, 7, 39, 40, 41, 42, 43, 44, 45, 46, 47, 48, 49, 50, 51, 52, 53, 54, 55, 56, 57, 58, 59, 60, 61, 9, 10, 11, 62, 63, 64, 65, 2, 66, 67, 68, 69, 70, 71, 72, 73, 74, 75, 76, 77, 78, 79, 80, 81, 82, 83, 84, 85, 86, 87, 88, 89, 90, 91] (by decide +kernel) (by decide +kernel)
set_option maxRecDepth 20000 in
theorem gX0_service_X0_planAnew : GoodIn wsX0_service (wsV RX0 144 RX0 yX0_planAnew wsX0_planAnew) := goodIn_app (goodIn_of _ (by decide +kernel)) ggX0_service_X0_planAnew
theorem dX0_service_0 : decode cX0_service 0 = .ok (.iload_n 1, 1) := by decide +kernel
theorem dX0_service_1 : decode cX0_service 1 = .ok (.invokestatic 134, 3) := by decide +kernel
theorem dX0_service_4 : decode cX0_service 4 = .ok (.invokestatic 56, 3) := by decide +kernel
theorem dX0_service_7 : decode cX0_service 7 = .ok (.iload_n 2, 1) := by decide +kernel
theorem dX0_service_8 : decode cX0_service 8 = .ok (.aload_n 0, 1) := by decide +kernel
theorem dX0_service_9 : decode cX0_service 9 = .ok (.getfield 109, 3) := by decide +kernel
theorem dX0_service_12 : decode cX0_service 12 = .ok (.sipush 1459, 3) := by decide +kernel
theorem dX0_service_15 : decode cX0_service 15 = .ok (.invokestatic 60, 3) := by decide +kernel
theorem dX0_service_18 : decode cX0_service 18 = .ok (.invokestatic 64, 3) := by decide +kernel
theorem dX0_service_21 : decode cX0_service 21 = .ok (.aload_n 0, 1) := by decide +kernel
theorem dX0_service_22 : decode cX0_service 22 = .ok (.getfield 137, 3) := by decide +kernel
theorem dX0_service_25 : decode cX0_service 25 = .ok (.bipush 40, 2) := by decide +kernel
theorem dX0_service_27 : decode cX0_service 27 = .ok (.if_icmp .ge 7, 3) := by decide +kernel
theorem dX0_service_30 : decode cX0_service 30 = .ok (.iconst 1, 1) := by decide +kernel
theorem dX0_service_31 : decode cX0_service 31 = .ok (.goto 4, 3) := by decide +kernel
theorem dX0_service_34 : decode cX0_service 34 = .ok (.iconst 0, 1) := by decide +kernel
theorem dX0_service_35 : decode cX0_service 35 = .ok (.invokestatic 71, 3) := by decide +kernel
theorem dX0_service_38 : decode cX0_service 38 = .ok (.aload_n 0, 1) := by decide +kernel
theorem dX0_service_39 : decode cX0_service 39 = .ok (.iload_n 1, 1) := by decide +kernel
theorem dX0_service_40 : decode cX0_service 40 = .ok (.iload_n 2, 1) := by decide +kernel
theorem dX0_service_41 : decode cX0_service 41 = .ok (.invokevirtual 140, 3) := by decide +kernel
theorem dX0_service_44 : decode cX0_service 44 = .ok (.ifCond .ne 7, 3) := by decide +kernel
theorem dX0_service_47 : decode cX0_service 47 = .ok (.iconst 1, 1) := by decide +kernel
theorem dX0_service_48 : decode cX0_service 48 = .ok (.goto 4, 3) := by decide +kernel
theorem dX0_service_51 : decode cX0_service 51 = .ok (.iconst 0, 1) := by decide +kernel
theorem dX0_service_52 : decode cX0_service 52 = .ok (.invokestatic 71, 3) := by decide +kernel
theorem dX0_service_55 : decode cX0_service 55 = .ok (.aload_n 0, 1) := by decide +kernel
theorem dX0_service_56 : decode cX0_service 56 = .ok (.getfield 137, 3) := by decide +kernel
theorem dX0_service_59 : decode cX0_service 59 = .ok (.istore_n 3, 1) := by decide +kernel
theorem dX0_service_60 : decode cX0_service 60 = .ok (.aload_n 0, 1) := by decide +kernel
theorem dX0_service_61 : decode cX0_service 61 = .ok (.getfield 43, 3) := by decide +kernel
theorem dX0_service_64 : decode cX0_service 64 = .ok (.iload_n 3, 1) := by decide +kernel
theorem dX0_service_65 : decode cX0_service 65 = .ok (.iload_n 1, 1) := by decide +kernel
theorem dX0_service_66 : decode cX0_service 66 = .ok (.iastore, 1) := by decide +kernel
theorem dX0_service_67 : decode cX0_service 67 = .ok (.aload_n 0, 1) := by decide +kernel
theorem dX0_service_68 : decode cX0_service 68 = .ok (.getfield 46, 3) := by decide +kernel
theorem dX0_service_71 : decode cX0_service 71 = .ok (.iload_n 3, 1) := by decide +kernel
theorem dX0_service_72 : decode cX0_service 72 = .ok (.iload_n 2, 1) := by decide +kernel
theorem dX0_service_73 : decode cX0_service 73 = .ok (.iastore, 1) := by decide +kernel
theorem dX0_service_74 : decode cX0_service 74 = .ok (.aload_n 0, 1) := by decide +kernel
theorem dX0_service_75 : decode cX0_service 75 = .ok (.dup, 1) := by decide +kernel
theorem dX0_service_76 : decode cX0_service 76 = .ok (.getfield 137, 3) := by decide +kernel
theorem dX0_service_79 : decode cX0_service 79 = .ok (.iconst 1, 1) := by decide +kernel
theorem dX0_service_80 : decode cX0_service 80 = .ok (.iadd, 1) := by decide +kernel
theorem dX0_service_81 : decode cX0_service 81 = .ok (.putfield 137, 3) := by decide +kernel
theorem dX0_service_84 : decode cX0_service 84 = .ok (.aload_n 0, 1) := by decide +kernel
theorem dX0_service_85 : decode cX0_service 85 = .ok (.iload_n 3, 1) := by decide +kernel
theorem dX0_service_86 : decode cX0_service 86 = .ok (.invokevirtual 144, 3) := by decide +kernel
theorem dX0_service_89 : decode cX0_service 89 = .ok (.iload_n 3, 1) := by decide +kernel
theorem dX0_service_90 : decode cX0_service 90 = .ok (.ireturn, 1) := by decide +kernel
set_option maxRecDepth 20000 in
theorem ggX0_plan_X0_isService : GoodIn wsX0_plan wsX0_isService := goodIn_r _ [8, 9, 10, 11, 7, 12, 66, 67, 68, 69, 70, 71, 72, 73, 74, 75, 76, 77, 78, 79, 80, 81, 82, 83] (by decide +kernel) (by decide +kernel)
set_option maxRecDepth 20000 in
theorem gX0_plan_X0_isService : GoodIn wsX0_plan (wsV RX0 148 RX0 yX0_isService wsX0_isService) := goodIn_app (goodIn_of _ (by decide +kernel)) ggX0_plan_X0_isService
set_option maxRecDepth 20000 in
theorem ggX0_plan_X0_needIndex : GoodIn wsX0_plan wsX0_needIndex := goodIn_ca (goodIn_r _ [15, 16, 17] (by decide +kernel) (by decide +kernel)) (goodIn_sub (fun _ h => List.mem_cons_of_mem _ (List.mem_append_left _ (List.mem_append_right _ h))) (by decide +kernel))
set_option maxRecDepth 20000 in
theorem gX0_plan_X0_needIndex : GoodIn wsX0_plan (va_wsS RX0 56 yX0_needIndex wsX0_needIndex) := goodIn_app (goodIn_of _ (by decide +kernel)) ggX0_plan_X0_needIndex
set_option maxRecDepth 20000 in
theorem ggX0_plan_X0_needState : GoodIn wsX0_plan wsX0_needState := goodIn_ca (goodIn_r _ [20, 21, 22] (by decide +kernel) (by decide +kernel)) (goodIn_sub (fun _ h => List.mem_cons_of_mem _ (List.mem_append_right _ h)) (by decide +kernel))
set_option maxRecDepth 20000 in
theorem gX0_plan_X0_needState : GoodIn wsX0_plan (va_wsS RX0 71 yX0_needState wsX0_needState) := goodIn_app (goodIn_of _ (by decide +kernel)) ggX0_plan_X0_needState
set_option maxRecDepth 20000 in
theorem ggX0_plan_X0_planAnew : GoodIn wsX0_plan wsX0_planAnew := goodIn_r _ [26, 3, 27, 1, 28, 29, 30, 7, 31, 32, 33, 34, 35, 36, 37, 38, 39, 40, 41, 42, 43, 44, 45, 46, 47, 48, 49, 50, 51, 52, 53, 10, 11, 12, 54, 55, 56, 57, 9, 58, 59, 60, 61, 62, 63, 64, 65, 66, 67, 68, 69, 70, 71, 72, 73, 74, 75, 76, 77, 78, 79, 80, 81, 82, 83] (by decide +kernel) (by decide +kernel)
set_option maxRecDepth 20000 in
theorem gX0_plan_X0_planAnew : GoodIn wsX0_plan (wsV RX0 144 RX0 yX0_planAnew wsX0_planAnew) := goodIn_app (goodIn_of _ (by decide +kernel)) ggX0_plan_X0_planAnew
theorem dX0_plan_0 : decode cX0_plan 0 = .ok (.aload_n 0, 1) := by decide +kernel
theorem dX0_plan_1 : decode cX0_plan 1 = .ok (.iload_n 1, 1) := by decide +kernel
theorem dX0_plan_2 : decode cX0_plan 2 = .ok (.invokevirtual 148, 3) := by decide +kernel
theorem dX0_plan_5 : decode cX0_plan 5 = .ok (.invokestatic 56, 3) := by decide +kernel
theorem dX0_plan_8 : decode cX0_plan 8 = .ok (.aload_n 0, 1) := by decide +kernel
theorem dX0_plan_9 : decode cX0_plan 9 = .ok (.getfield 46, 3) := by decide +kernel
theorem dX0_plan_12 : decode cX0_plan 12 = .ok (.iload_n 1, 1) := by decide +kernel
theorem dX0_plan_13 : decode cX0_plan 13 = .ok (.iaload, 1) := by decide +kernel
theorem dX0_plan_14 : decode cX0_plan 14 = .ok (.aload_n 0, 1) := by decide +kernel
theorem dX0_plan_15 : decode cX0_plan 15 = .ok (.getfield 109, 3) := by decide +kernel
theorem dX0_plan_18 : decode cX0_plan 18 = .ok (.if_icmp .lt 7, 3) := by decide +kernel
theorem dX0_plan_21 : decode cX0_plan 21 = .ok (.iconst 1, 1) := by decide +kernel
theorem dX0_plan_22 : decode cX0_plan 22 = .ok (.goto 4, 3) := by decide +kernel
theorem dX0_plan_25 : decode cX0_plan 25 = .ok (.iconst 0, 1) := by decide +kernel
theorem dX0_plan_26 : decode cX0_plan 26 = .ok (.invokestatic 71, 3) := by decide +kernel
theorem dX0_plan_29 : decode cX0_plan 29 = .ok (.aload_n 0, 1) := by decide +kernel
theorem dX0_plan_30 : decode cX0_plan 30 = .ok (.iload_n 1, 1) := by decide +kernel
theorem dX0_plan_31 : decode cX0_plan 31 = .ok (.invokevirtual 144, 3) := by decide +kernel
theorem dX0_plan_34 : decode cX0_plan 34 = .ok (.aload_n 0, 1) := by decide +kernel
theorem dX0_plan_35 : decode cX0_plan 35 = .ok (.getfield 49, 3) := by decide +kernel
theorem dX0_plan_38 : decode cX0_plan 38 = .ok (.iload_n 1, 1) := by decide +kernel
theorem dX0_plan_39 : decode cX0_plan 39 = .ok (.iaload, 1) := by decide +kernel
theorem dX0_plan_40 : decode cX0_plan 40 = .ok (.ireturn, 1) := by decide +kernel
set_option maxRecDepth 20000 in
theorem ggX0_hymnOf_X0_isService : GoodIn wsX0_hymnOf wsX0_isService := goodIn_r _ [6, 7, 8, 9, 5, 10, 16, 17, 18, 19, 20, 21, 22, 23, 24, 25, 26, 27, 28, 29, 30, 31, 32, 33] (by decide +kernel) (by decide +kernel)
set_option maxRecDepth 20000 in
theorem gX0_hymnOf_X0_isService : GoodIn wsX0_hymnOf (wsV RX0 148 RX0 yX0_isService wsX0_isService) := goodIn_app (goodIn_of _ (by decide +kernel)) ggX0_hymnOf_X0_isService
set_option maxRecDepth 20000 in
theorem ggX0_hymnOf_X0_needIndex : GoodIn wsX0_hymnOf wsX0_needIndex := goodIn_ca (goodIn_r _ [13, 14, 15] (by decide +kernel) (by decide +kernel)) (goodIn_sub (fun _ h => List.mem_cons_of_mem _ (List.mem_append_right _ h)) (by decide +kernel))
set_option maxRecDepth 20000 in
theorem gX0_hymnOf_X0_needIndex : GoodIn wsX0_hymnOf (va_wsS RX0 56 yX0_needIndex wsX0_needIndex) := goodIn_app (goodIn_of _ (by decide +kernel)) ggX0_hymnOf_X0_needIndex
theorem dX0_hymnOf_0 : decode cX0_hymnOf 0 = .ok (.aload_n 0, 1) := by decide +kernel
theorem dX0_hymnOf_1 : decode cX0_hymnOf 1 = .ok (.iload_n 1, 1) := by decide +kernel
theorem dX0_hymnOf_2 : decode cX0_hymnOf 2 = .ok (.invokevirtual 148, 3) := by decide +kernel
theorem dX0_hymnOf_5 : decode cX0_hymnOf 5 = .ok (.invokestatic 56, 3) := by decide +kernel
theorem dX0_hymnOf_8 : decode cX0_hymnOf 8 = .ok (.aload_n 0, 1) := by decide +kernel
theorem dX0_hymnOf_9 : decode cX0_hymnOf 9 = .ok (.getfield 49, 3) := by decide +kernel
theorem dX0_hymnOf_12 : decode cX0_hymnOf 12 = .ok (.iload_n 1, 1) := by decide +kernel
theorem dX0_hymnOf_13 : decode cX0_hymnOf 13 = .ok (.iaload, 1) := by decide +kernel
theorem dX0_hymnOf_14 : decode cX0_hymnOf 14 = .ok (.ireturn, 1) := by decide +kernel
theorem dX0_silent_0 : decode cX0_silent 0 = .ok (.iconst 0, 1) := by decide +kernel
theorem dX0_silent_1 : decode cX0_silent 1 = .ok (.istore_n 1, 1) := by decide +kernel
theorem dX0_silent_2 : decode cX0_silent 2 = .ok (.iconst 0, 1) := by decide +kernel
theorem dX0_silent_3 : decode cX0_silent 3 = .ok (.istore_n 2, 1) := by decide +kernel
theorem dX0_silent_4 : decode cX0_silent 4 = .ok (.iload_n 2, 1) := by decide +kernel
theorem dX0_silent_5 : decode cX0_silent 5 = .ok (.aload_n 0, 1) := by decide +kernel
theorem dX0_silent_6 : decode cX0_silent 6 = .ok (.getfield 137, 3) := by decide +kernel
theorem dX0_silent_9 : decode cX0_silent 9 = .ok (.if_icmp .ge 35, 3) := by decide +kernel
theorem dX0_silent_12 : decode cX0_silent 12 = .ok (.aload_n 0, 1) := by decide +kernel
theorem dX0_silent_13 : decode cX0_silent 13 = .ok (.getfield 46, 3) := by decide +kernel
theorem dX0_silent_16 : decode cX0_silent 16 = .ok (.iload_n 2, 1) := by decide +kernel
theorem dX0_silent_17 : decode cX0_silent 17 = .ok (.iaload, 1) := by decide +kernel
theorem dX0_silent_18 : decode cX0_silent 18 = .ok (.aload_n 0, 1) := by decide +kernel
theorem dX0_silent_19 : decode cX0_silent 19 = .ok (.getfield 109, 3) := by decide +kernel
theorem dX0_silent_22 : decode cX0_silent 22 = .ok (.if_icmp .gt 16, 3) := by decide +kernel
theorem dX0_silent_25 : decode cX0_silent 25 = .ok (.aload_n 0, 1) := by decide +kernel
theorem dX0_silent_26 : decode cX0_silent 26 = .ok (.getfield 49, 3) := by decide +kernel
theorem dX0_silent_29 : decode cX0_silent 29 = .ok (.iload_n 2, 1) := by decide +kernel
theorem dX0_silent_30 : decode cX0_silent 30 = .ok (.iaload, 1) := by decide +kernel
theorem dX0_silent_31 : decode cX0_silent 31 = .ok (.iconst (-1), 1) := by decide +kernel
theorem dX0_silent_32 : decode cX0_silent 32 = .ok (.if_icmp .ne 6, 3) := by decide +kernel
theorem dX0_silent_35 : decode cX0_silent 35 = .ok (.iinc 1 1, 3) := by decide +kernel
theorem dX0_silent_38 : decode cX0_silent 38 = .ok (.iinc 2 1, 3) := by decide +kernel
theorem dX0_silent_41 : decode cX0_silent 41 = .ok (.goto (-37), 3) := by decide +kernel
theorem dX0_silent_44 : decode cX0_silent 44 = .ok (.iload_n 1, 1) := by decide +kernel
theorem dX0_silent_45 : decode cX0_silent 45 = .ok (.ireturn, 1) := by decide +kernel
theorem dX0_hasServiceOn_0 : decode cX0_hasServiceOn 0 = .ok (.iconst 0, 1) := by decide +kernel
theorem dX0_hasServiceOn_1 : decode cX0_hasServiceOn 1 = .ok (.istore_n 3, 1) := by decide +kernel
theorem dX0_hasServiceOn_2 : decode cX0_hasServiceOn 2 = .ok (.iload_n 3, 1) := by decide +kernel
theorem dX0_hasServiceOn_3 : decode cX0_hasServiceOn 3 = .ok (.aload_n 0, 1) := by decide +kernel
theorem dX0_hasServiceOn_4 : decode cX0_hasServiceOn 4 = .ok (.getfield 137, 3) := by decide +kernel
theorem dX0_hasServiceOn_7 : decode cX0_hasServiceOn 7 = .ok (.if_icmp .ge 31, 3) := by decide +kernel
theorem dX0_hasServiceOn_10 : decode cX0_hasServiceOn 10 = .ok (.aload_n 0, 1) := by decide +kernel
theorem dX0_hasServiceOn_11 : decode cX0_hasServiceOn 11 = .ok (.getfield 43, 3) := by decide +kernel
theorem dX0_hasServiceOn_14 : decode cX0_hasServiceOn 14 = .ok (.iload_n 3, 1) := by decide +kernel
theorem dX0_hasServiceOn_15 : decode cX0_hasServiceOn 15 = .ok (.iaload, 1) := by decide +kernel
theorem dX0_hasServiceOn_16 : decode cX0_hasServiceOn 16 = .ok (.iload_n 1, 1) := by decide +kernel
theorem dX0_hasServiceOn_17 : decode cX0_hasServiceOn 17 = .ok (.if_icmp .ne 15, 3) := by decide +kernel
theorem dX0_hasServiceOn_20 : decode cX0_hasServiceOn 20 = .ok (.aload_n 0, 1) := by decide +kernel
theorem dX0_hasServiceOn_21 : decode cX0_hasServiceOn 21 = .ok (.getfield 46, 3) := by decide +kernel
theorem dX0_hasServiceOn_24 : decode cX0_hasServiceOn 24 = .ok (.iload_n 3, 1) := by decide +kernel
theorem dX0_hasServiceOn_25 : decode cX0_hasServiceOn 25 = .ok (.iaload, 1) := by decide +kernel
theorem dX0_hasServiceOn_26 : decode cX0_hasServiceOn 26 = .ok (.iload_n 2, 1) := by decide +kernel
theorem dX0_hasServiceOn_27 : decode cX0_hasServiceOn 27 = .ok (.if_icmp .ne 5, 3) := by decide +kernel
theorem dX0_hasServiceOn_30 : decode cX0_hasServiceOn 30 = .ok (.iconst 1, 1) := by decide +kernel
theorem dX0_hasServiceOn_31 : decode cX0_hasServiceOn 31 = .ok (.ireturn, 1) := by decide +kernel
theorem dX0_hasServiceOn_32 : decode cX0_hasServiceOn 32 = .ok (.iinc 3 1, 3) := by decide +kernel
theorem dX0_hasServiceOn_35 : decode cX0_hasServiceOn 35 = .ok (.goto (-33), 3) := by decide +kernel
theorem dX0_hasServiceOn_38 : decode cX0_hasServiceOn 38 = .ok (.iconst 0, 1) := by decide +kernel
theorem dX0_hasServiceOn_39 : decode cX0_hasServiceOn 39 = .ok (.ireturn, 1) := by decide +kernel
set_option maxRecDepth 20000 in
theorem ggX0_planAnew_X0_bestHymn : GoodIn wsX0_planAnew wsX0_bestHymn := goodIn_r _ [8, 9, 10, 11, 12, 7, 13, 14, 15, 16, 17, 18, 19, 20, 21, 22, 23, 24, 25, 26, 27, 28, 29, 30, 31, 32, 33, 34, 35, 36, 37, 38, 2, 1, 3, 39, 40, 41, 42, 43, 44, 45, 46, 47, 48, 49, 50, 51, 52, 53, 54, 55, 56, 57, 58, 59, 60, 61, 62, 63, 64] (by decide +kernel) (by decide +kernel)
set_option maxRecDepth 20000 in
theorem gX0_planAnew_X0_bestHymn : GoodIn wsX0_planAnew (wsV RX0 151 RX0 yX0_bestHymn wsX0_bestHymn) := goodIn_app (goodIn_of _ (by decide +kernel)) ggX0_planAnew_X0_bestHymn
theorem dX0_planAnew_0 : decode cX0_planAnew 0 = .ok (.aload_n 0, 1) := by decide +kernel
theorem dX0_planAnew_1 : decode cX0_planAnew 1 = .ok (.getfield 49, 3) := by decide +kernel
theorem dX0_planAnew_4 : decode cX0_planAnew 4 = .ok (.iload_n 1, 1) := by decide +kernel
theorem dX0_planAnew_5 : decode cX0_planAnew 5 = .ok (.iconst (-1), 1) := by decide +kernel
theorem dX0_planAnew_6 : decode cX0_planAnew 6 = .ok (.iastore, 1) := by decide +kernel
theorem dX0_planAnew_7 : decode cX0_planAnew 7 = .ok (.aload_n 0, 1) := by decide +kernel
theorem dX0_planAnew_8 : decode cX0_planAnew 8 = .ok (.getfield 49, 3) := by decide +kernel
theorem dX0_planAnew_11 : decode cX0_planAnew 11 = .ok (.iload_n 1, 1) := by decide +kernel
theorem dX0_planAnew_12 : decode cX0_planAnew 12 = .ok (.aload_n 0, 1) := by decide +kernel
theorem dX0_planAnew_13 : decode cX0_planAnew 13 = .ok (.aload_n 0, 1) := by decide +kernel
theorem dX0_planAnew_14 : decode cX0_planAnew 14 = .ok (.getfield 43, 3) := by decide +kernel
theorem dX0_planAnew_17 : decode cX0_planAnew 17 = .ok (.iload_n 1, 1) := by decide +kernel
theorem dX0_planAnew_18 : decode cX0_planAnew 18 = .ok (.iaload, 1) := by decide +kernel
theorem dX0_planAnew_19 : decode cX0_planAnew 19 = .ok (.aload_n 0, 1) := by decide +kernel
theorem dX0_planAnew_20 : decode cX0_planAnew 20 = .ok (.getfield 46, 3) := by decide +kernel
theorem dX0_planAnew_23 : decode cX0_planAnew 23 = .ok (.iload_n 1, 1) := by decide +kernel
theorem dX0_planAnew_24 : decode cX0_planAnew 24 = .ok (.iaload, 1) := by decide +kernel
theorem dX0_planAnew_25 : decode cX0_planAnew 25 = .ok (.invokevirtual 151, 3) := by decide +kernel
theorem dX0_planAnew_28 : decode cX0_planAnew 28 = .ok (.iastore, 1) := by decide +kernel
theorem dX0_planAnew_29 : decode cX0_planAnew 29 = .ok (.return_, 1) := by decide +kernel
set_option maxRecDepth 20000 in
theorem ggX0_bestHymn_X0_isSuitable : GoodIn wsX0_bestHymn wsX0_isSuitable := goodIn_r _ [6, 7, 8, 9, 10, 5, 11, 12, 13, 14, 15, 16, 17, 18, 19, 20, 21, 22, 23, 24, 25, 26, 27, 28, 29, 30, 31, 32, 33, 34, 35, 36, 37, 38, 43, 44, 45, 46, 47, 48, 49, 50, 51, 52, 53, 54, 55, 56, 57, 58, 59, 60] (by decide +kernel) (by decide +kernel)
set_option maxRecDepth 20000 in
theorem gX0_bestHymn_X0_isSuitable : GoodIn wsX0_bestHymn (wsV RX0 154 RX0 yX0_isSuitable wsX0_isSuitable) := goodIn_app (goodIn_of _ (by decide +kernel)) ggX0_bestHymn_X0_isSuitable
set_option maxRecDepth 20000 in
theorem ggX0_bestHymn_X0_servicesWith : GoodIn wsX0_bestHymn wsX0_servicesWith := goodIn_r _ [42, 31, 33, 43, 44, 45, 46, 47, 48, 49, 50, 51, 52, 53, 54, 55, 56, 57, 58, 59, 60] (by decide +kernel) (by decide +kernel)
set_option maxRecDepth 20000 in
theorem gX0_bestHymn_X0_servicesWith : GoodIn wsX0_bestHymn (wsV RX0 157 RX0 yX0_servicesWith wsX0_servicesWith) := goodIn_app (goodIn_of _ (by decide +kernel)) ggX0_bestHymn_X0_servicesWith
theorem dX0_bestHymn_0 : decode cX0_bestHymn 0 = .ok (.iconst (-1), 1) := by decide +kernel
theorem dX0_bestHymn_1 : decode cX0_bestHymn 1 = .ok (.istore_n 3, 1) := by decide +kernel
theorem dX0_bestHymn_2 : decode cX0_bestHymn 2 = .ok (.iconst 0, 1) := by decide +kernel
theorem dX0_bestHymn_3 : decode cX0_bestHymn 3 = .ok (.istore 4, 2) := by decide +kernel
theorem dX0_bestHymn_5 : decode cX0_bestHymn 5 = .ok (.iconst 0, 1) := by decide +kernel
theorem dX0_bestHymn_6 : decode cX0_bestHymn 6 = .ok (.istore 5, 2) := by decide +kernel
theorem dX0_bestHymn_8 : decode cX0_bestHymn 8 = .ok (.iload 5, 2) := by decide +kernel
theorem dX0_bestHymn_10 : decode cX0_bestHymn 10 = .ok (.aload_n 0, 1) := by decide +kernel
theorem dX0_bestHymn_11 : decode cX0_bestHymn 11 = .ok (.getfield 67, 3) := by decide +kernel
theorem dX0_bestHymn_14 : decode cX0_bestHymn 14 = .ok (.if_icmp .ge 47, 3) := by decide +kernel
theorem dX0_bestHymn_17 : decode cX0_bestHymn 17 = .ok (.aload_n 0, 1) := by decide +kernel
theorem dX0_bestHymn_18 : decode cX0_bestHymn 18 = .ok (.iload 5, 2) := by decide +kernel
theorem dX0_bestHymn_20 : decode cX0_bestHymn 20 = .ok (.iload_n 1, 1) := by decide +kernel
theorem dX0_bestHymn_21 : decode cX0_bestHymn 21 = .ok (.iload_n 2, 1) := by decide +kernel
theorem dX0_bestHymn_22 : decode cX0_bestHymn 22 = .ok (.invokevirtual 154, 3) := by decide +kernel
theorem dX0_bestHymn_25 : decode cX0_bestHymn 25 = .ok (.ifCond .eq 30, 3) := by decide +kernel
theorem dX0_bestHymn_28 : decode cX0_bestHymn 28 = .ok (.aload_n 0, 1) := by decide +kernel
theorem dX0_bestHymn_29 : decode cX0_bestHymn 29 = .ok (.iload 5, 2) := by decide +kernel
theorem dX0_bestHymn_31 : decode cX0_bestHymn 31 = .ok (.invokevirtual 157, 3) := by decide +kernel
theorem dX0_bestHymn_34 : decode cX0_bestHymn 34 = .ok (.istore 6, 2) := by decide +kernel
theorem dX0_bestHymn_36 : decode cX0_bestHymn 36 = .ok (.iload_n 3, 1) := by decide +kernel
theorem dX0_bestHymn_37 : decode cX0_bestHymn 37 = .ok (.iconst (-1), 1) := by decide +kernel
theorem dX0_bestHymn_38 : decode cX0_bestHymn 38 = .ok (.if_icmp .eq 10, 3) := by decide +kernel
theorem dX0_bestHymn_41 : decode cX0_bestHymn 41 = .ok (.iload 6, 2) := by decide +kernel
theorem dX0_bestHymn_43 : decode cX0_bestHymn 43 = .ok (.iload 4, 2) := by decide +kernel
theorem dX0_bestHymn_45 : decode cX0_bestHymn 45 = .ok (.if_icmp .ge 10, 3) := by decide +kernel
theorem dX0_bestHymn_48 : decode cX0_bestHymn 48 = .ok (.iload 5, 2) := by decide +kernel
theorem dX0_bestHymn_50 : decode cX0_bestHymn 50 = .ok (.istore_n 3, 1) := by decide +kernel
theorem dX0_bestHymn_51 : decode cX0_bestHymn 51 = .ok (.iload 6, 2) := by decide +kernel
theorem dX0_bestHymn_53 : decode cX0_bestHymn 53 = .ok (.istore 4, 2) := by decide +kernel
theorem dX0_bestHymn_55 : decode cX0_bestHymn 55 = .ok (.iinc 5 1, 3) := by decide +kernel
theorem dX0_bestHymn_58 : decode cX0_bestHymn 58 = .ok (.goto (-50), 3) := by decide +kernel
theorem dX0_bestHymn_61 : decode cX0_bestHymn 61 = .ok (.iload_n 3, 1) := by decide +kernel
theorem dX0_bestHymn_62 : decode cX0_bestHymn 62 = .ok (.ireturn, 1) := by decide +kernel
set_option maxRecDepth 20000 in
theorem ggX0_isSuitable_X0_isInSet : GoodIn wsX0_isSuitable wsX0_isInSet := goodIn_r _ [6] (by decide +kernel) (by decide +kernel)
set_option maxRecDepth 20000 in
theorem gX0_isSuitable_X0_isInSet : GoodIn wsX0_isSuitable (va_wsS RX0 93 yX0_isInSet wsX0_isInSet) := goodIn_app (goodIn_of _ (by decide +kernel)) ggX0_isSuitable_X0_isInSet
set_option maxRecDepth 20000 in
theorem ggX0_isSuitable_X0_seasonOf : GoodIn wsX0_isSuitable wsX0_seasonOf := goodIn_r _ [9] (by decide +kernel) (by decide +kernel)
set_option maxRecDepth 20000 in
theorem gX0_isSuitable_X0_seasonOf : GoodIn wsX0_isSuitable (va_wsS RX0 160 yX0_seasonOf wsX0_seasonOf) := goodIn_app (goodIn_of _ (by decide +kernel)) ggX0_isSuitable_X0_seasonOf
set_option maxRecDepth 20000 in
theorem ggX0_isSuitable_X0_isAllowed : GoodIn wsX0_isSuitable wsX0_isAllowed := goodIn_r _ [13, 14, 15, 16, 17, 18, 19, 20, 5, 21, 34, 35, 36, 37, 38, 39, 40, 41, 42, 43, 44, 45, 46, 47, 48, 49, 50, 51] (by decide +kernel) (by decide +kernel)
set_option maxRecDepth 20000 in
theorem gX0_isSuitable_X0_isAllowed : GoodIn wsX0_isSuitable (wsV RX0 125 RX0 yX0_isAllowed wsX0_isAllowed) := goodIn_app (goodIn_of _ (by decide +kernel)) ggX0_isSuitable_X0_isAllowed
set_option maxRecDepth 20000 in
theorem ggX0_isSuitable_X0_isRested : GoodIn wsX0_isSuitable wsX0_isRested := goodIn_r _ [25, 26, 27, 28, 29, 30, 31, 32, 33, 34, 35, 36, 37, 38, 39, 40, 41, 42, 43, 44, 45, 46, 47, 48, 49, 50, 51] (by decide +kernel) (by decide +kernel)
set_option maxRecDepth 20000 in
theorem gX0_isSuitable_X0_isRested : GoodIn wsX0_isSuitable (wsV RX0 163 RX0 yX0_isRested wsX0_isRested) := goodIn_app (goodIn_of _ (by decide +kernel)) ggX0_isSuitable_X0_isRested
theorem dX0_isSuitable_0 : decode cX0_isSuitable 0 = .ok (.iload_n 2, 1) := by decide +kernel
theorem dX0_isSuitable_1 : decode cX0_isSuitable 1 = .ok (.aload_n 0, 1) := by decide +kernel
theorem dX0_isSuitable_2 : decode cX0_isSuitable 2 = .ok (.getfield 25, 3) := by decide +kernel
theorem dX0_isSuitable_5 : decode cX0_isSuitable 5 = .ok (.iload_n 1, 1) := by decide +kernel
theorem dX0_isSuitable_6 : decode cX0_isSuitable 6 = .ok (.iaload, 1) := by decide +kernel
theorem dX0_isSuitable_7 : decode cX0_isSuitable 7 = .ok (.i2l, 1) := by decide +kernel
theorem dX0_isSuitable_8 : decode cX0_isSuitable 8 = .ok (.invokestatic 93, 3) := by decide +kernel
theorem dX0_isSuitable_11 : decode cX0_isSuitable 11 = .ok (.ifCond .eq 44, 3) := by decide +kernel
theorem dX0_isSuitable_14 : decode cX0_isSuitable 14 = .ok (.iload_n 3, 1) := by decide +kernel
theorem dX0_isSuitable_15 : decode cX0_isSuitable 15 = .ok (.invokestatic 160, 3) := by decide +kernel
theorem dX0_isSuitable_18 : decode cX0_isSuitable 18 = .ok (.aload_n 0, 1) := by decide +kernel
theorem dX0_isSuitable_19 : decode cX0_isSuitable 19 = .ok (.getfield 13, 3) := by decide +kernel
theorem dX0_isSuitable_22 : decode cX0_isSuitable 22 = .ok (.iload_n 1, 1) := by decide +kernel
theorem dX0_isSuitable_23 : decode cX0_isSuitable 23 = .ok (.iaload, 1) := by decide +kernel
theorem dX0_isSuitable_24 : decode cX0_isSuitable 24 = .ok (.i2l, 1) := by decide +kernel
theorem dX0_isSuitable_25 : decode cX0_isSuitable 25 = .ok (.invokestatic 93, 3) := by decide +kernel
theorem dX0_isSuitable_28 : decode cX0_isSuitable 28 = .ok (.ifCond .eq 27, 3) := by decide +kernel
theorem dX0_isSuitable_31 : decode cX0_isSuitable 31 = .ok (.aload_n 0, 1) := by decide +kernel
theorem dX0_isSuitable_32 : decode cX0_isSuitable 32 = .ok (.iload_n 1, 1) := by decide +kernel
theorem dX0_isSuitable_33 : decode cX0_isSuitable 33 = .ok (.iconst 0, 1) := by decide +kernel
theorem dX0_isSuitable_34 : decode cX0_isSuitable 34 = .ok (.iload_n 3, 1) := by decide +kernel
theorem dX0_isSuitable_35 : decode cX0_isSuitable 35 = .ok (.invokevirtual 125, 3) := by decide +kernel
theorem dX0_isSuitable_38 : decode cX0_isSuitable 38 = .ok (.ifCond .eq 17, 3) := by decide +kernel
theorem dX0_isSuitable_41 : decode cX0_isSuitable 41 = .ok (.aload_n 0, 1) := by decide +kernel
theorem dX0_isSuitable_42 : decode cX0_isSuitable 42 = .ok (.iload_n 1, 1) := by decide +kernel
theorem dX0_isSuitable_43 : decode cX0_isSuitable 43 = .ok (.iload_n 2, 1) := by decide +kernel
theorem dX0_isSuitable_44 : decode cX0_isSuitable 44 = .ok (.iload_n 3, 1) := by decide +kernel
theorem dX0_isSuitable_45 : decode cX0_isSuitable 45 = .ok (.invokevirtual 163, 3) := by decide +kernel
theorem dX0_isSuitable_48 : decode cX0_isSuitable 48 = .ok (.ifCond .eq 7, 3) := by decide +kernel
theorem dX0_isSuitable_51 : decode cX0_isSuitable 51 = .ok (.iconst 1, 1) := by decide +kernel
theorem dX0_isSuitable_52 : decode cX0_isSuitable 52 = .ok (.goto 4, 3) := by decide +kernel
theorem dX0_isSuitable_55 : decode cX0_isSuitable 55 = .ok (.iconst 0, 1) := by decide +kernel
theorem dX0_isSuitable_56 : decode cX0_isSuitable 56 = .ok (.ireturn, 1) := by decide +kernel
theorem dX0_isRested_0 : decode cX0_isRested 0 = .ok (.iconst 0, 1) := by decide +kernel
theorem dX0_isRested_1 : decode cX0_isRested 1 = .ok (.istore 4, 2) := by decide +kernel
theorem dX0_isRested_3 : decode cX0_isRested 3 = .ok (.iload 4, 2) := by decide +kernel
theorem dX0_isRested_5 : decode cX0_isRested 5 = .ok (.aload_n 0, 1) := by decide +kernel
theorem dX0_isRested_6 : decode cX0_isRested 6 = .ok (.getfield 137, 3) := by decide +kernel
theorem dX0_isRested_9 : decode cX0_isRested 9 = .ok (.if_icmp .ge 50, 3) := by decide +kernel
theorem dX0_isRested_12 : decode cX0_isRested 12 = .ok (.aload_n 0, 1) := by decide +kernel
theorem dX0_isRested_13 : decode cX0_isRested 13 = .ok (.getfield 43, 3) := by decide +kernel
theorem dX0_isRested_16 : decode cX0_isRested 16 = .ok (.iload 4, 2) := by decide +kernel
theorem dX0_isRested_18 : decode cX0_isRested 18 = .ok (.iaload, 1) := by decide +kernel
theorem dX0_isRested_19 : decode cX0_isRested 19 = .ok (.iload_n 2, 1) := by decide +kernel
theorem dX0_isRested_20 : decode cX0_isRested 20 = .ok (.if_icmp .ne 33, 3) := by decide +kernel
theorem dX0_isRested_23 : decode cX0_isRested 23 = .ok (.aload_n 0, 1) := by decide +kernel
theorem dX0_isRested_24 : decode cX0_isRested 24 = .ok (.getfield 49, 3) := by decide +kernel
theorem dX0_isRested_27 : decode cX0_isRested 27 = .ok (.iload 4, 2) := by decide +kernel
theorem dX0_isRested_29 : decode cX0_isRested 29 = .ok (.iaload, 1) := by decide +kernel
theorem dX0_isRested_30 : decode cX0_isRested 30 = .ok (.iload_n 1, 1) := by decide +kernel
theorem dX0_isRested_31 : decode cX0_isRested 31 = .ok (.if_icmp .ne 22, 3) := by decide +kernel
theorem dX0_isRested_34 : decode cX0_isRested 34 = .ok (.aload_n 0, 1) := by decide +kernel
theorem dX0_isRested_35 : decode cX0_isRested 35 = .ok (.getfield 46, 3) := by decide +kernel
theorem dX0_isRested_38 : decode cX0_isRested 38 = .ok (.iload 4, 2) := by decide +kernel
theorem dX0_isRested_40 : decode cX0_isRested 40 = .ok (.iaload, 1) := by decide +kernel
theorem dX0_isRested_41 : decode cX0_isRested 41 = .ok (.iload_n 3, 1) := by decide +kernel
theorem dX0_isRested_42 : decode cX0_isRested 42 = .ok (.isub, 1) := by decide +kernel
theorem dX0_isRested_43 : decode cX0_isRested 43 = .ok (.invokestatic 166, 3) := by decide +kernel
theorem dX0_isRested_46 : decode cX0_isRested 46 = .ok (.bipush 28, 2) := by decide +kernel
theorem dX0_isRested_48 : decode cX0_isRested 48 = .ok (.if_icmp .ge 5, 3) := by decide +kernel
theorem dX0_isRested_51 : decode cX0_isRested 51 = .ok (.iconst 0, 1) := by decide +kernel
theorem dX0_isRested_52 : decode cX0_isRested 52 = .ok (.ireturn, 1) := by decide +kernel
theorem dX0_isRested_53 : decode cX0_isRested 53 = .ok (.iinc 4 1, 3) := by decide +kernel
theorem dX0_isRested_56 : decode cX0_isRested 56 = .ok (.goto (-53), 3) := by decide +kernel
theorem dX0_isRested_59 : decode cX0_isRested 59 = .ok (.iconst 1, 1) := by decide +kernel
theorem dX0_isRested_60 : decode cX0_isRested 60 = .ok (.ireturn, 1) := by decide +kernel
theorem dX0_servicesWith_0 : decode cX0_servicesWith 0 = .ok (.iconst 0, 1) := by decide +kernel
theorem dX0_servicesWith_1 : decode cX0_servicesWith 1 = .ok (.istore_n 2, 1) := by decide +kernel
theorem dX0_servicesWith_2 : decode cX0_servicesWith 2 = .ok (.iconst 0, 1) := by decide +kernel
theorem dX0_servicesWith_3 : decode cX0_servicesWith 3 = .ok (.istore_n 3, 1) := by decide +kernel
theorem dX0_servicesWith_4 : decode cX0_servicesWith 4 = .ok (.iload_n 3, 1) := by decide +kernel
theorem dX0_servicesWith_5 : decode cX0_servicesWith 5 = .ok (.aload_n 0, 1) := by decide +kernel
theorem dX0_servicesWith_6 : decode cX0_servicesWith 6 = .ok (.getfield 137, 3) := by decide +kernel
theorem dX0_servicesWith_9 : decode cX0_servicesWith 9 = .ok (.if_icmp .ge 22, 3) := by decide +kernel
theorem dX0_servicesWith_12 : decode cX0_servicesWith 12 = .ok (.aload_n 0, 1) := by decide +kernel
theorem dX0_servicesWith_13 : decode cX0_servicesWith 13 = .ok (.getfield 49, 3) := by decide +kernel
theorem dX0_servicesWith_16 : decode cX0_servicesWith 16 = .ok (.iload_n 3, 1) := by decide +kernel
theorem dX0_servicesWith_17 : decode cX0_servicesWith 17 = .ok (.iaload, 1) := by decide +kernel
theorem dX0_servicesWith_18 : decode cX0_servicesWith 18 = .ok (.iload_n 1, 1) := by decide +kernel
theorem dX0_servicesWith_19 : decode cX0_servicesWith 19 = .ok (.if_icmp .ne 6, 3) := by decide +kernel
theorem dX0_servicesWith_22 : decode cX0_servicesWith 22 = .ok (.iinc 2 1, 3) := by decide +kernel
theorem dX0_servicesWith_25 : decode cX0_servicesWith 25 = .ok (.iinc 3 1, 3) := by decide +kernel
theorem dX0_servicesWith_28 : decode cX0_servicesWith 28 = .ok (.goto (-24), 3) := by decide +kernel
theorem dX0_servicesWith_31 : decode cX0_servicesWith 31 = .ok (.iload_n 2, 1) := by decide +kernel
theorem dX0_servicesWith_32 : decode cX0_servicesWith 32 = .ok (.ireturn, 1) := by decide +kernel
set_option maxRecDepth 20000 in
theorem ggX0_silenceServicesWithoutRight_X0_hasLostItsRight : GoodIn wsX0_silenceServicesWithoutRight wsX0_hasLostItsRight := goodIn_r _ [7, 2, 8, 9, 10, 11, 12, 6, 13, 14, 15, 16, 17, 18, 19, 20, 21, 22, 23, 24, 25, 26, 27, 28, 29, 30, 31, 32, 33, 34, 35, 36, 37, 38, 39] (by decide +kernel) (by decide +kernel)
set_option maxRecDepth 20000 in
theorem gX0_silenceServicesWithoutRight_X0_hasLostItsRight : GoodIn wsX0_silenceServicesWithoutRight (wsV RX0 171 RX0 yX0_hasLostItsRight wsX0_hasLostItsRight) := goodIn_app (goodIn_of _ (by decide +kernel)) ggX0_silenceServicesWithoutRight_X0_hasLostItsRight
theorem dX0_silenceServicesWithoutRight_0 : decode cX0_silenceServicesWithoutRight 0 = .ok (.lconst 0, 1) := by decide +kernel
theorem dX0_silenceServicesWithoutRight_1 : decode cX0_silenceServicesWithoutRight 1 = .ok (.lstore_n 1, 1) := by decide +kernel
theorem dX0_silenceServicesWithoutRight_2 : decode cX0_silenceServicesWithoutRight 2 = .ok (.iconst 0, 1) := by decide +kernel
theorem dX0_silenceServicesWithoutRight_3 : decode cX0_silenceServicesWithoutRight 3 = .ok (.istore_n 3, 1) := by decide +kernel
theorem dX0_silenceServicesWithoutRight_4 : decode cX0_silenceServicesWithoutRight 4 = .ok (.iload_n 3, 1) := by decide +kernel
theorem dX0_silenceServicesWithoutRight_5 : decode cX0_silenceServicesWithoutRight 5 = .ok (.aload_n 0, 1) := by decide +kernel
theorem dX0_silenceServicesWithoutRight_6 : decode cX0_silenceServicesWithoutRight 6 = .ok (.getfield 137, 3) := by decide +kernel
theorem dX0_silenceServicesWithoutRight_9 : decode cX0_silenceServicesWithoutRight 9 = .ok (.if_icmp .ge 30, 3) := by decide +kernel
theorem dX0_silenceServicesWithoutRight_12 : decode cX0_silenceServicesWithoutRight 12 = .ok (.aload_n 0, 1) := by decide +kernel
theorem dX0_silenceServicesWithoutRight_13 : decode cX0_silenceServicesWithoutRight 13 = .ok (.iload_n 3, 1) := by decide +kernel
theorem dX0_silenceServicesWithoutRight_14 : decode cX0_silenceServicesWithoutRight 14 = .ok (.invokevirtual 171, 3) := by decide +kernel
theorem dX0_silenceServicesWithoutRight_17 : decode cX0_silenceServicesWithoutRight 17 = .ok (.ifCond .eq 16, 3) := by decide +kernel
theorem dX0_silenceServicesWithoutRight_20 : decode cX0_silenceServicesWithoutRight 20 = .ok (.aload_n 0, 1) := by decide +kernel
theorem dX0_silenceServicesWithoutRight_21 : decode cX0_silenceServicesWithoutRight 21 = .ok (.getfield 49, 3) := by decide +kernel
theorem dX0_silenceServicesWithoutRight_24 : decode cX0_silenceServicesWithoutRight 24 = .ok (.iload_n 3, 1) := by decide +kernel
theorem dX0_silenceServicesWithoutRight_25 : decode cX0_silenceServicesWithoutRight 25 = .ok (.iconst (-1), 1) := by decide +kernel
theorem dX0_silenceServicesWithoutRight_26 : decode cX0_silenceServicesWithoutRight 26 = .ok (.iastore, 1) := by decide +kernel
theorem dX0_silenceServicesWithoutRight_27 : decode cX0_silenceServicesWithoutRight 27 = .ok (.lload_n 1, 1) := by decide +kernel
theorem dX0_silenceServicesWithoutRight_28 : decode cX0_silenceServicesWithoutRight 28 = .ok (.lconst 1, 1) := by decide +kernel
theorem dX0_silenceServicesWithoutRight_29 : decode cX0_silenceServicesWithoutRight 29 = .ok (.iload_n 3, 1) := by decide +kernel
theorem dX0_silenceServicesWithoutRight_30 : decode cX0_silenceServicesWithoutRight 30 = .ok (.lshl, 1) := by decide +kernel
theorem dX0_silenceServicesWithoutRight_31 : decode cX0_silenceServicesWithoutRight 31 = .ok (.lor, 1) := by decide +kernel
theorem dX0_silenceServicesWithoutRight_32 : decode cX0_silenceServicesWithoutRight 32 = .ok (.lstore_n 1, 1) := by decide +kernel
theorem dX0_silenceServicesWithoutRight_33 : decode cX0_silenceServicesWithoutRight 33 = .ok (.iinc 3 1, 3) := by decide +kernel
theorem dX0_silenceServicesWithoutRight_36 : decode cX0_silenceServicesWithoutRight 36 = .ok (.goto (-32), 3) := by decide +kernel
theorem dX0_silenceServicesWithoutRight_39 : decode cX0_silenceServicesWithoutRight 39 = .ok (.lload_n 1, 1) := by decide +kernel
theorem dX0_silenceServicesWithoutRight_40 : decode cX0_silenceServicesWithoutRight 40 = .ok (.lreturn, 1) := by decide +kernel
set_option maxRecDepth 20000 in
theorem ggX0_hasLostItsRight_X0_isAllowed : GoodIn wsX0_hasLostItsRight wsX0_isAllowed := goodIn_r _ [8, 9, 10, 11, 12, 13, 14, 15, 7, 16, 17, 18, 19, 20, 21, 22, 23, 24, 25, 26, 27, 28, 29, 30, 31, 32, 33, 34] (by decide +kernel) (by decide +kernel)
set_option maxRecDepth 20000 in
theorem gX0_hasLostItsRight_X0_isAllowed : GoodIn wsX0_hasLostItsRight (wsV RX0 125 RX0 yX0_isAllowed wsX0_isAllowed) := goodIn_app (goodIn_of _ (by decide +kernel)) ggX0_hasLostItsRight_X0_isAllowed
theorem dX0_hasLostItsRight_0 : decode cX0_hasLostItsRight 0 = .ok (.aload_n 0, 1) := by decide +kernel
theorem dX0_hasLostItsRight_1 : decode cX0_hasLostItsRight 1 = .ok (.getfield 49, 3) := by decide +kernel
theorem dX0_hasLostItsRight_4 : decode cX0_hasLostItsRight 4 = .ok (.iload_n 1, 1) := by decide +kernel
theorem dX0_hasLostItsRight_5 : decode cX0_hasLostItsRight 5 = .ok (.iaload, 1) := by decide +kernel
theorem dX0_hasLostItsRight_6 : decode cX0_hasLostItsRight 6 = .ok (.istore_n 2, 1) := by decide +kernel
theorem dX0_hasLostItsRight_7 : decode cX0_hasLostItsRight 7 = .ok (.aload_n 0, 1) := by decide +kernel
theorem dX0_hasLostItsRight_8 : decode cX0_hasLostItsRight 8 = .ok (.getfield 46, 3) := by decide +kernel
theorem dX0_hasLostItsRight_11 : decode cX0_hasLostItsRight 11 = .ok (.iload_n 1, 1) := by decide +kernel
theorem dX0_hasLostItsRight_12 : decode cX0_hasLostItsRight 12 = .ok (.iaload, 1) := by decide +kernel
theorem dX0_hasLostItsRight_13 : decode cX0_hasLostItsRight 13 = .ok (.istore_n 3, 1) := by decide +kernel
theorem dX0_hasLostItsRight_14 : decode cX0_hasLostItsRight 14 = .ok (.iload_n 3, 1) := by decide +kernel
theorem dX0_hasLostItsRight_15 : decode cX0_hasLostItsRight 15 = .ok (.aload_n 0, 1) := by decide +kernel
theorem dX0_hasLostItsRight_16 : decode cX0_hasLostItsRight 16 = .ok (.getfield 109, 3) := by decide +kernel
theorem dX0_hasLostItsRight_19 : decode cX0_hasLostItsRight 19 = .ok (.if_icmp .lt 22, 3) := by decide +kernel
theorem dX0_hasLostItsRight_22 : decode cX0_hasLostItsRight 22 = .ok (.iload_n 2, 1) := by decide +kernel
theorem dX0_hasLostItsRight_23 : decode cX0_hasLostItsRight 23 = .ok (.iconst (-1), 1) := by decide +kernel
theorem dX0_hasLostItsRight_24 : decode cX0_hasLostItsRight 24 = .ok (.if_icmp .eq 17, 3) := by decide +kernel
theorem dX0_hasLostItsRight_27 : decode cX0_hasLostItsRight 27 = .ok (.aload_n 0, 1) := by decide +kernel
theorem dX0_hasLostItsRight_28 : decode cX0_hasLostItsRight 28 = .ok (.iload_n 2, 1) := by decide +kernel
theorem dX0_hasLostItsRight_29 : decode cX0_hasLostItsRight 29 = .ok (.iconst 0, 1) := by decide +kernel
theorem dX0_hasLostItsRight_30 : decode cX0_hasLostItsRight 30 = .ok (.iload_n 3, 1) := by decide +kernel
theorem dX0_hasLostItsRight_31 : decode cX0_hasLostItsRight 31 = .ok (.invokevirtual 125, 3) := by decide +kernel
theorem dX0_hasLostItsRight_34 : decode cX0_hasLostItsRight 34 = .ok (.ifCond .ne 7, 3) := by decide +kernel
theorem dX0_hasLostItsRight_37 : decode cX0_hasLostItsRight 37 = .ok (.iconst 1, 1) := by decide +kernel
theorem dX0_hasLostItsRight_38 : decode cX0_hasLostItsRight 38 = .ok (.goto 4, 3) := by decide +kernel
theorem dX0_hasLostItsRight_41 : decode cX0_hasLostItsRight 41 = .ok (.iconst 0, 1) := by decide +kernel
theorem dX0_hasLostItsRight_42 : decode cX0_hasLostItsRight 42 = .ok (.ireturn, 1) := by decide +kernel
set_option maxRecDepth 20000 in
theorem ggX0_planEach_X0_isInSet : GoodIn wsX0_planEach wsX0_isInSet := goodIn_r _ [5] (by decide +kernel) (by decide +kernel)
set_option maxRecDepth 20000 in
theorem gX0_planEach_X0_isInSet : GoodIn wsX0_planEach (va_wsS RX0 93 yX0_isInSet wsX0_isInSet) := goodIn_app (goodIn_of _ (by decide +kernel)) ggX0_planEach_X0_isInSet
set_option maxRecDepth 20000 in
theorem ggX0_planEach_X0_planAnew : GoodIn wsX0_planEach wsX0_planAnew := goodIn_r _ [9, 10, 11, 12, 13, 14, 15, 4, 16, 17, 18, 19, 20, 21, 22, 23, 2, 3, 5, 24, 25, 26, 27, 28, 29, 30, 31, 32, 33, 34, 35, 36, 37, 38, 39, 40, 41, 42, 1, 43, 44, 45, 46, 47, 48, 49, 50, 51, 52, 53, 54, 55, 56, 57, 58, 59, 60, 61, 62, 63, 64, 65, 66, 67, 68] (by decide +kernel) (by decide +kernel)
set_option maxRecDepth 20000 in
theorem gX0_planEach_X0_planAnew : GoodIn wsX0_planEach (wsV RX0 144 RX0 yX0_planAnew wsX0_planAnew) := goodIn_app (goodIn_of _ (by decide +kernel)) ggX0_planEach_X0_planAnew
theorem dX0_planEach_0 : decode cX0_planEach 0 = .ok (.iconst 0, 1) := by decide +kernel
theorem dX0_planEach_1 : decode cX0_planEach 1 = .ok (.istore_n 3, 1) := by decide +kernel
theorem dX0_planEach_2 : decode cX0_planEach 2 = .ok (.iload_n 3, 1) := by decide +kernel
theorem dX0_planEach_3 : decode cX0_planEach 3 = .ok (.aload_n 0, 1) := by decide +kernel
theorem dX0_planEach_4 : decode cX0_planEach 4 = .ok (.getfield 137, 3) := by decide +kernel
theorem dX0_planEach_7 : decode cX0_planEach 7 = .ok (.if_icmp .ge 22, 3) := by decide +kernel
theorem dX0_planEach_10 : decode cX0_planEach 10 = .ok (.iload_n 3, 1) := by decide +kernel
theorem dX0_planEach_11 : decode cX0_planEach 11 = .ok (.lload_n 1, 1) := by decide +kernel
theorem dX0_planEach_12 : decode cX0_planEach 12 = .ok (.invokestatic 93, 3) := by decide +kernel
theorem dX0_planEach_15 : decode cX0_planEach 15 = .ok (.ifCond .eq 8, 3) := by decide +kernel
theorem dX0_planEach_18 : decode cX0_planEach 18 = .ok (.aload_n 0, 1) := by decide +kernel
theorem dX0_planEach_19 : decode cX0_planEach 19 = .ok (.iload_n 3, 1) := by decide +kernel
theorem dX0_planEach_20 : decode cX0_planEach 20 = .ok (.invokevirtual 144, 3) := by decide +kernel
theorem dX0_planEach_23 : decode cX0_planEach 23 = .ok (.iinc 3 1, 3) := by decide +kernel
theorem dX0_planEach_26 : decode cX0_planEach 26 = .ok (.goto (-24), 3) := by decide +kernel
theorem dX0_planEach_29 : decode cX0_planEach 29 = .ok (.return_, 1) := by decide +kernel
set_option maxRecDepth 20000 in
theorem ggX0_sung_X0_isOwner : GoodIn wsX0_sung wsX0_isOwner := goodIn_r _ [7, 8, 9, 6, 10] (by decide +kernel) (by decide +kernel)
set_option maxRecDepth 20000 in
theorem gX0_sung_X0_isOwner : GoodIn wsX0_sung (va_wsS RX0 52 yX0_isOwner wsX0_isOwner) := goodIn_app (goodIn_of _ (by decide +kernel)) ggX0_sung_X0_isOwner
set_option maxRecDepth 20000 in
theorem ggX0_sung_X0_needIndex : GoodIn wsX0_sung wsX0_needIndex := goodIn_ca (goodIn_r _ [13, 14, 15] (by decide +kernel) (by decide +kernel)) (goodIn_sub (fun _ h => List.mem_cons_of_mem _ (List.mem_append_right _ h)) (by decide +kernel))
set_option maxRecDepth 20000 in
theorem gX0_sung_X0_needIndex : GoodIn wsX0_sung (va_wsS RX0 56 yX0_needIndex wsX0_needIndex) := goodIn_app (goodIn_of _ (by decide +kernel)) ggX0_sung_X0_needIndex
set_option maxRecDepth 20000 in
theorem ggX0_sung_X0_isYear : GoodIn wsX0_sung wsX0_isYear := goodIn_r _ [18, 8, 9, 6, 10] (by decide +kernel) (by decide +kernel)
set_option maxRecDepth 20000 in
theorem gX0_sung_X0_isYear : GoodIn wsX0_sung (va_wsS RX0 131 yX0_isYear wsX0_isYear) := goodIn_app (goodIn_of _ (by decide +kernel)) ggX0_sung_X0_isYear
set_option maxRecDepth 20000 in
theorem ggX0_sung_X0_isHeldIn : GoodIn wsX0_sung wsX0_isHeldIn := goodIn_r _ [22, 23, 24, 25, 26, 6, 27, 33, 34, 35, 36, 37, 38, 39, 40, 41, 42, 43, 44, 45, 46, 47, 48, 49, 50] (by decide +kernel) (by decide +kernel)
set_option maxRecDepth 20000 in
theorem gX0_sung_X0_isHeldIn : GoodIn wsX0_sung (wsV RX0 174 RX0 yX0_isHeldIn wsX0_isHeldIn) := goodIn_app (goodIn_of _ (by decide +kernel)) ggX0_sung_X0_isHeldIn
set_option maxRecDepth 20000 in
theorem ggX0_sung_X0_isHymn : GoodIn wsX0_sung wsX0_isHymn := goodIn_r _ [31, 32, 8, 9, 6, 10, 33, 34, 35, 36, 37, 38, 39, 40, 41, 42, 43, 44, 45, 46, 47, 48, 49, 50] (by decide +kernel) (by decide +kernel)
set_option maxRecDepth 20000 in
theorem gX0_sung_X0_isHymn : GoodIn wsX0_sung (wsV RX0 78 RX0 yX0_isHymn wsX0_isHymn) := goodIn_app (goodIn_of _ (by decide +kernel)) ggX0_sung_X0_isHymn
theorem dX0_sung_0 : decode cX0_sung 0 = .ok (.iload_n 1, 1) := by decide +kernel
theorem dX0_sung_1 : decode cX0_sung 1 = .ok (.invokestatic 52, 3) := by decide +kernel
theorem dX0_sung_4 : decode cX0_sung 4 = .ok (.invokestatic 56, 3) := by decide +kernel
theorem dX0_sung_7 : decode cX0_sung 7 = .ok (.iload_n 2, 1) := by decide +kernel
theorem dX0_sung_8 : decode cX0_sung 8 = .ok (.invokestatic 131, 3) := by decide +kernel
theorem dX0_sung_11 : decode cX0_sung 11 = .ok (.invokestatic 56, 3) := by decide +kernel
theorem dX0_sung_14 : decode cX0_sung 14 = .ok (.iconst 0, 1) := by decide +kernel
theorem dX0_sung_15 : decode cX0_sung 15 = .ok (.istore_n 3, 1) := by decide +kernel
theorem dX0_sung_16 : decode cX0_sung 16 = .ok (.iconst 0, 1) := by decide +kernel
theorem dX0_sung_17 : decode cX0_sung 17 = .ok (.istore 4, 2) := by decide +kernel
theorem dX0_sung_19 : decode cX0_sung 19 = .ok (.iload 4, 2) := by decide +kernel
theorem dX0_sung_21 : decode cX0_sung 21 = .ok (.aload_n 0, 1) := by decide +kernel
theorem dX0_sung_22 : decode cX0_sung 22 = .ok (.getfield 137, 3) := by decide +kernel
theorem dX0_sung_25 : decode cX0_sung 25 = .ok (.if_icmp .ge 51, 3) := by decide +kernel
theorem dX0_sung_28 : decode cX0_sung 28 = .ok (.aload_n 0, 1) := by decide +kernel
theorem dX0_sung_29 : decode cX0_sung 29 = .ok (.getfield 49, 3) := by decide +kernel
theorem dX0_sung_32 : decode cX0_sung 32 = .ok (.iload 4, 2) := by decide +kernel
theorem dX0_sung_34 : decode cX0_sung 34 = .ok (.iaload, 1) := by decide +kernel
theorem dX0_sung_35 : decode cX0_sung 35 = .ok (.istore 5, 2) := by decide +kernel
theorem dX0_sung_37 : decode cX0_sung 37 = .ok (.aload_n 0, 1) := by decide +kernel
theorem dX0_sung_38 : decode cX0_sung 38 = .ok (.iload 4, 2) := by decide +kernel
theorem dX0_sung_40 : decode cX0_sung 40 = .ok (.iload_n 2, 1) := by decide +kernel
theorem dX0_sung_41 : decode cX0_sung 41 = .ok (.invokevirtual 174, 3) := by decide +kernel
theorem dX0_sung_44 : decode cX0_sung 44 = .ok (.ifCond .eq 26, 3) := by decide +kernel
theorem dX0_sung_47 : decode cX0_sung 47 = .ok (.aload_n 0, 1) := by decide +kernel
theorem dX0_sung_48 : decode cX0_sung 48 = .ok (.iload 5, 2) := by decide +kernel
theorem dX0_sung_50 : decode cX0_sung 50 = .ok (.invokevirtual 78, 3) := by decide +kernel
theorem dX0_sung_53 : decode cX0_sung 53 = .ok (.ifCond .eq 17, 3) := by decide +kernel
theorem dX0_sung_56 : decode cX0_sung 56 = .ok (.aload_n 0, 1) := by decide +kernel
theorem dX0_sung_57 : decode cX0_sung 57 = .ok (.getfield 9, 3) := by decide +kernel
theorem dX0_sung_60 : decode cX0_sung 60 = .ok (.iload 5, 2) := by decide +kernel
theorem dX0_sung_62 : decode cX0_sung 62 = .ok (.iaload, 1) := by decide +kernel
theorem dX0_sung_63 : decode cX0_sung 63 = .ok (.iload_n 1, 1) := by decide +kernel
theorem dX0_sung_64 : decode cX0_sung 64 = .ok (.if_icmp .ne 6, 3) := by decide +kernel
theorem dX0_sung_67 : decode cX0_sung 67 = .ok (.iinc 3 1, 3) := by decide +kernel
theorem dX0_sung_70 : decode cX0_sung 70 = .ok (.iinc 4 1, 3) := by decide +kernel
theorem dX0_sung_73 : decode cX0_sung 73 = .ok (.goto (-54), 3) := by decide +kernel
theorem dX0_sung_76 : decode cX0_sung 76 = .ok (.iload_n 3, 1) := by decide +kernel
theorem dX0_sung_77 : decode cX0_sung 77 = .ok (.ireturn, 1) := by decide +kernel
set_option maxRecDepth 20000 in
theorem ggX0_sungByHymns_X0_isOwner : GoodIn wsX0_sungByHymns wsX0_isOwner := goodIn_r _ [6, 7, 8, 5, 9] (by decide +kernel) (by decide +kernel)
set_option maxRecDepth 20000 in
theorem gX0_sungByHymns_X0_isOwner : GoodIn wsX0_sungByHymns (va_wsS RX0 52 yX0_isOwner wsX0_isOwner) := goodIn_app (goodIn_of _ (by decide +kernel)) ggX0_sungByHymns_X0_isOwner
set_option maxRecDepth 20000 in
theorem ggX0_sungByHymns_X0_needIndex : GoodIn wsX0_sungByHymns wsX0_needIndex := goodIn_ca (goodIn_r _ [12, 13, 14] (by decide +kernel) (by decide +kernel)) (goodIn_sub (fun _ h => List.mem_cons_of_mem _ (List.mem_append_right _ h)) (by decide +kernel))
set_option maxRecDepth 20000 in
theorem gX0_sungByHymns_X0_needIndex : GoodIn wsX0_sungByHymns (va_wsS RX0 56 yX0_needIndex wsX0_needIndex) := goodIn_app (goodIn_of _ (by decide +kernel)) ggX0_sungByHymns_X0_needIndex
set_option maxRecDepth 20000 in
theorem ggX0_sungByHymns_X0_isYear : GoodIn wsX0_sungByHymns wsX0_isYear := goodIn_r _ [17, 7, 8, 5, 9] (by decide +kernel) (by decide +kernel)
set_option maxRecDepth 20000 in
theorem gX0_sungByHymns_X0_isYear : GoodIn wsX0_sungByHymns (va_wsS RX0 131 yX0_isYear wsX0_isYear) := goodIn_app (goodIn_of _ (by decide +kernel)) ggX0_sungByHymns_X0_isYear
set_option maxRecDepth 20000 in
theorem ggX0_sungByHymns_X0_timesSung : GoodIn wsX0_sungByHymns wsX0_timesSung := goodIn_r _ [21, 22, 23, 24, 25, 26, 5, 27, 28, 29, 30, 31, 32, 33, 34, 35, 36, 37, 38, 39, 40, 41, 42, 43, 44, 45, 46, 47, 48, 49, 50] (by decide +kernel) (by decide +kernel)
set_option maxRecDepth 20000 in
theorem gX0_sungByHymns_X0_timesSung : GoodIn wsX0_sungByHymns (wsV RX0 177 RX0 yX0_timesSung wsX0_timesSung) := goodIn_app (goodIn_of _ (by decide +kernel)) ggX0_sungByHymns_X0_timesSung
theorem dX0_sungByHymns_0 : decode cX0_sungByHymns 0 = .ok (.iload_n 1, 1) := by decide +kernel
theorem dX0_sungByHymns_1 : decode cX0_sungByHymns 1 = .ok (.invokestatic 52, 3) := by decide +kernel
theorem dX0_sungByHymns_4 : decode cX0_sungByHymns 4 = .ok (.invokestatic 56, 3) := by decide +kernel
theorem dX0_sungByHymns_7 : decode cX0_sungByHymns 7 = .ok (.iload_n 2, 1) := by decide +kernel
theorem dX0_sungByHymns_8 : decode cX0_sungByHymns 8 = .ok (.invokestatic 131, 3) := by decide +kernel
theorem dX0_sungByHymns_11 : decode cX0_sungByHymns 11 = .ok (.invokestatic 56, 3) := by decide +kernel
theorem dX0_sungByHymns_14 : decode cX0_sungByHymns 14 = .ok (.iconst 0, 1) := by decide +kernel
theorem dX0_sungByHymns_15 : decode cX0_sungByHymns 15 = .ok (.istore_n 3, 1) := by decide +kernel
theorem dX0_sungByHymns_16 : decode cX0_sungByHymns 16 = .ok (.iconst 0, 1) := by decide +kernel
theorem dX0_sungByHymns_17 : decode cX0_sungByHymns 17 = .ok (.istore 4, 2) := by decide +kernel
theorem dX0_sungByHymns_19 : decode cX0_sungByHymns 19 = .ok (.iload 4, 2) := by decide +kernel
theorem dX0_sungByHymns_21 : decode cX0_sungByHymns 21 = .ok (.aload_n 0, 1) := by decide +kernel
theorem dX0_sungByHymns_22 : decode cX0_sungByHymns 22 = .ok (.getfield 67, 3) := by decide +kernel
theorem dX0_sungByHymns_25 : decode cX0_sungByHymns 25 = .ok (.if_icmp .ge 30, 3) := by decide +kernel
theorem dX0_sungByHymns_28 : decode cX0_sungByHymns 28 = .ok (.aload_n 0, 1) := by decide +kernel
theorem dX0_sungByHymns_29 : decode cX0_sungByHymns 29 = .ok (.getfield 9, 3) := by decide +kernel
theorem dX0_sungByHymns_32 : decode cX0_sungByHymns 32 = .ok (.iload 4, 2) := by decide +kernel
theorem dX0_sungByHymns_34 : decode cX0_sungByHymns 34 = .ok (.iaload, 1) := by decide +kernel
theorem dX0_sungByHymns_35 : decode cX0_sungByHymns 35 = .ok (.iload_n 1, 1) := by decide +kernel
theorem dX0_sungByHymns_36 : decode cX0_sungByHymns 36 = .ok (.if_icmp .ne 13, 3) := by decide +kernel
theorem dX0_sungByHymns_39 : decode cX0_sungByHymns 39 = .ok (.iload_n 3, 1) := by decide +kernel
theorem dX0_sungByHymns_40 : decode cX0_sungByHymns 40 = .ok (.aload_n 0, 1) := by decide +kernel
theorem dX0_sungByHymns_41 : decode cX0_sungByHymns 41 = .ok (.iload 4, 2) := by decide +kernel
theorem dX0_sungByHymns_43 : decode cX0_sungByHymns 43 = .ok (.iload_n 2, 1) := by decide +kernel
theorem dX0_sungByHymns_44 : decode cX0_sungByHymns 44 = .ok (.invokevirtual 177, 3) := by decide +kernel
theorem dX0_sungByHymns_47 : decode cX0_sungByHymns 47 = .ok (.iadd, 1) := by decide +kernel
theorem dX0_sungByHymns_48 : decode cX0_sungByHymns 48 = .ok (.istore_n 3, 1) := by decide +kernel
theorem dX0_sungByHymns_49 : decode cX0_sungByHymns 49 = .ok (.iinc 4 1, 3) := by decide +kernel
theorem dX0_sungByHymns_52 : decode cX0_sungByHymns 52 = .ok (.goto (-33), 3) := by decide +kernel
theorem dX0_sungByHymns_55 : decode cX0_sungByHymns 55 = .ok (.iload_n 3, 1) := by decide +kernel
theorem dX0_sungByHymns_56 : decode cX0_sungByHymns 56 = .ok (.ireturn, 1) := by decide +kernel
set_option maxRecDepth 20000 in
theorem ggX0_pass_X0_isBetween : GoodIn wsX0_pass wsX0_isBetween := goodIn_r _ [5] (by decide +kernel) (by decide +kernel)
set_option maxRecDepth 20000 in
theorem gX0_pass_X0_isBetween : GoodIn wsX0_pass (va_wsS RX0 60 yX0_isBetween wsX0_isBetween) := goodIn_app (goodIn_of _ (by decide +kernel)) ggX0_pass_X0_isBetween
set_option maxRecDepth 20000 in
theorem ggX0_pass_X0_needArgument : GoodIn wsX0_pass wsX0_needArgument := goodIn_ca (goodIn_r _ [8, 9, 10] (by decide +kernel) (by decide +kernel)) (goodIn_sub (fun _ h => List.mem_cons_of_mem _ (List.mem_append_left _ (List.mem_append_right _ h))) (by decide +kernel))
set_option maxRecDepth 20000 in
theorem gX0_pass_X0_needArgument : GoodIn wsX0_pass (va_wsS RX0 64 yX0_needArgument wsX0_needArgument) := goodIn_app (goodIn_of _ (by decide +kernel)) ggX0_pass_X0_needArgument
set_option maxRecDepth 20000 in
theorem ggX0_pass_X0_needState : GoodIn wsX0_pass wsX0_needState := goodIn_ca (goodIn_r _ [13, 14, 15] (by decide +kernel) (by decide +kernel)) (goodIn_sub (fun _ h => List.mem_cons_of_mem _ (List.mem_append_right _ h)) (by decide +kernel))
set_option maxRecDepth 20000 in
theorem gX0_pass_X0_needState : GoodIn wsX0_pass (va_wsS RX0 71 yX0_needState wsX0_needState) := goodIn_app (goodIn_of _ (by decide +kernel)) ggX0_pass_X0_needState
theorem dX0_pass_0 : decode cX0_pass 0 = .ok (.iload_n 1, 1) := by decide +kernel
theorem dX0_pass_1 : decode cX0_pass 1 = .ok (.iconst 1, 1) := by decide +kernel
theorem dX0_pass_2 : decode cX0_pass 2 = .ok (.sipush 200, 3) := by decide +kernel
theorem dX0_pass_5 : decode cX0_pass 5 = .ok (.invokestatic 60, 3) := by decide +kernel
theorem dX0_pass_8 : decode cX0_pass 8 = .ok (.invokestatic 64, 3) := by decide +kernel
theorem dX0_pass_11 : decode cX0_pass 11 = .ok (.aload_n 0, 1) := by decide +kernel
theorem dX0_pass_12 : decode cX0_pass 12 = .ok (.getfield 109, 3) := by decide +kernel
theorem dX0_pass_15 : decode cX0_pass 15 = .ok (.iload_n 1, 1) := by decide +kernel
theorem dX0_pass_16 : decode cX0_pass 16 = .ok (.iadd, 1) := by decide +kernel
theorem dX0_pass_17 : decode cX0_pass 17 = .ok (.sipush 1459, 3) := by decide +kernel
theorem dX0_pass_20 : decode cX0_pass 20 = .ok (.if_icmp .gt 7, 3) := by decide +kernel
theorem dX0_pass_23 : decode cX0_pass 23 = .ok (.iconst 1, 1) := by decide +kernel
theorem dX0_pass_24 : decode cX0_pass 24 = .ok (.goto 4, 3) := by decide +kernel
theorem dX0_pass_27 : decode cX0_pass 27 = .ok (.iconst 0, 1) := by decide +kernel
theorem dX0_pass_28 : decode cX0_pass 28 = .ok (.invokestatic 71, 3) := by decide +kernel
theorem dX0_pass_31 : decode cX0_pass 31 = .ok (.aload_n 0, 1) := by decide +kernel
theorem dX0_pass_32 : decode cX0_pass 32 = .ok (.dup, 1) := by decide +kernel
theorem dX0_pass_33 : decode cX0_pass 33 = .ok (.getfield 109, 3) := by decide +kernel
theorem dX0_pass_36 : decode cX0_pass 36 = .ok (.iload_n 1, 1) := by decide +kernel
theorem dX0_pass_37 : decode cX0_pass 37 = .ok (.iadd, 1) := by decide +kernel
theorem dX0_pass_38 : decode cX0_pass 38 = .ok (.putfield 109, 3) := by decide +kernel
theorem dX0_pass_41 : decode cX0_pass 41 = .ok (.aload_n 0, 1) := by decide +kernel
theorem dX0_pass_42 : decode cX0_pass 42 = .ok (.getfield 109, 3) := by decide +kernel
theorem dX0_pass_45 : decode cX0_pass 45 = .ok (.ireturn, 1) := by decide +kernel
set_option maxRecDepth 20000 in
theorem ggX0_timesSung_X0_isHeldIn : GoodIn wsX0_timesSung wsX0_isHeldIn := goodIn_r _ [7, 8, 9, 10, 11, 6, 12, 13, 14, 15, 16, 17, 18, 19, 20, 21, 22, 23, 24, 25, 26, 27, 28, 29, 30] (by decide +kernel) (by decide +kernel)
set_option maxRecDepth 20000 in
theorem gX0_timesSung_X0_isHeldIn : GoodIn wsX0_timesSung (wsV RX0 174 RX0 yX0_isHeldIn wsX0_isHeldIn) := goodIn_app (goodIn_of _ (by decide +kernel)) ggX0_timesSung_X0_isHeldIn
theorem dX0_timesSung_0 : decode cX0_timesSung 0 = .ok (.iconst 0, 1) := by decide +kernel
theorem dX0_timesSung_1 : decode cX0_timesSung 1 = .ok (.istore_n 3, 1) := by decide +kernel
theorem dX0_timesSung_2 : decode cX0_timesSung 2 = .ok (.iconst 0, 1) := by decide +kernel
theorem dX0_timesSung_3 : decode cX0_timesSung 3 = .ok (.istore 4, 2) := by decide +kernel
theorem dX0_timesSung_5 : decode cX0_timesSung 5 = .ok (.iload 4, 2) := by decide +kernel
theorem dX0_timesSung_7 : decode cX0_timesSung 7 = .ok (.aload_n 0, 1) := by decide +kernel
theorem dX0_timesSung_8 : decode cX0_timesSung 8 = .ok (.getfield 137, 3) := by decide +kernel
theorem dX0_timesSung_11 : decode cX0_timesSung 11 = .ok (.if_icmp .ge 33, 3) := by decide +kernel
theorem dX0_timesSung_14 : decode cX0_timesSung 14 = .ok (.aload_n 0, 1) := by decide +kernel
theorem dX0_timesSung_15 : decode cX0_timesSung 15 = .ok (.iload 4, 2) := by decide +kernel
theorem dX0_timesSung_17 : decode cX0_timesSung 17 = .ok (.iload_n 2, 1) := by decide +kernel
theorem dX0_timesSung_18 : decode cX0_timesSung 18 = .ok (.invokevirtual 174, 3) := by decide +kernel
theorem dX0_timesSung_21 : decode cX0_timesSung 21 = .ok (.ifCond .eq 17, 3) := by decide +kernel
theorem dX0_timesSung_24 : decode cX0_timesSung 24 = .ok (.aload_n 0, 1) := by decide +kernel
theorem dX0_timesSung_25 : decode cX0_timesSung 25 = .ok (.getfield 49, 3) := by decide +kernel
theorem dX0_timesSung_28 : decode cX0_timesSung 28 = .ok (.iload 4, 2) := by decide +kernel
theorem dX0_timesSung_30 : decode cX0_timesSung 30 = .ok (.iaload, 1) := by decide +kernel
theorem dX0_timesSung_31 : decode cX0_timesSung 31 = .ok (.iload_n 1, 1) := by decide +kernel
theorem dX0_timesSung_32 : decode cX0_timesSung 32 = .ok (.if_icmp .ne 6, 3) := by decide +kernel
theorem dX0_timesSung_35 : decode cX0_timesSung 35 = .ok (.iinc 3 1, 3) := by decide +kernel
theorem dX0_timesSung_38 : decode cX0_timesSung 38 = .ok (.iinc 4 1, 3) := by decide +kernel
theorem dX0_timesSung_41 : decode cX0_timesSung 41 = .ok (.goto (-36), 3) := by decide +kernel
theorem dX0_timesSung_44 : decode cX0_timesSung 44 = .ok (.iload_n 3, 1) := by decide +kernel
theorem dX0_timesSung_45 : decode cX0_timesSung 45 = .ok (.ireturn, 1) := by decide +kernel
set_option maxRecDepth 20000 in
theorem ggX0_isHeldIn_X0_yearOf : GoodIn wsX0_isHeldIn wsX0_yearOf := goodIn_r _ [6] (by decide +kernel) (by decide +kernel)
set_option maxRecDepth 20000 in
theorem gX0_isHeldIn_X0_yearOf : GoodIn wsX0_isHeldIn (va_wsS RX0 128 yX0_yearOf wsX0_yearOf) := goodIn_app (goodIn_of _ (by decide +kernel)) ggX0_isHeldIn_X0_yearOf
theorem dX0_isHeldIn_0 : decode cX0_isHeldIn 0 = .ok (.aload_n 0, 1) := by decide +kernel
theorem dX0_isHeldIn_1 : decode cX0_isHeldIn 1 = .ok (.getfield 46, 3) := by decide +kernel
theorem dX0_isHeldIn_4 : decode cX0_isHeldIn 4 = .ok (.iload_n 1, 1) := by decide +kernel
theorem dX0_isHeldIn_5 : decode cX0_isHeldIn 5 = .ok (.iaload, 1) := by decide +kernel
theorem dX0_isHeldIn_6 : decode cX0_isHeldIn 6 = .ok (.istore_n 3, 1) := by decide +kernel
theorem dX0_isHeldIn_7 : decode cX0_isHeldIn 7 = .ok (.iload_n 3, 1) := by decide +kernel
theorem dX0_isHeldIn_8 : decode cX0_isHeldIn 8 = .ok (.aload_n 0, 1) := by decide +kernel
theorem dX0_isHeldIn_9 : decode cX0_isHeldIn 9 = .ok (.getfield 109, 3) := by decide +kernel
theorem dX0_isHeldIn_12 : decode cX0_isHeldIn 12 = .ok (.if_icmp .gt 15, 3) := by decide +kernel
theorem dX0_isHeldIn_15 : decode cX0_isHeldIn 15 = .ok (.iload_n 3, 1) := by decide +kernel
theorem dX0_isHeldIn_16 : decode cX0_isHeldIn 16 = .ok (.invokestatic 128, 3) := by decide +kernel
theorem dX0_isHeldIn_19 : decode cX0_isHeldIn 19 = .ok (.iload_n 2, 1) := by decide +kernel
theorem dX0_isHeldIn_20 : decode cX0_isHeldIn 20 = .ok (.if_icmp .ne 7, 3) := by decide +kernel
theorem dX0_isHeldIn_23 : decode cX0_isHeldIn 23 = .ok (.iconst 1, 1) := by decide +kernel
theorem dX0_isHeldIn_24 : decode cX0_isHeldIn 24 = .ok (.goto 4, 3) := by decide +kernel
theorem dX0_isHeldIn_27 : decode cX0_isHeldIn 27 = .ok (.iconst 0, 1) := by decide +kernel
theorem dX0_isHeldIn_28 : decode cX0_isHeldIn 28 = .ok (.ireturn, 1) := by decide +kernel
theorem dX0_yearOf_0 : decode cX0_yearOf 0 = .ok (.iload_n 0, 1) := by decide +kernel
theorem dX0_yearOf_1 : decode cX0_yearOf 1 = .ok (.sipush 365, 3) := by decide +kernel
theorem dX0_yearOf_4 : decode cX0_yearOf 4 = .ok (.idiv, 1) := by decide +kernel
theorem dX0_yearOf_5 : decode cX0_yearOf 5 = .ok (.ireturn, 1) := by decide +kernel
theorem dX0_seasonOf_0 : decode cX0_seasonOf 0 = .ok (.iload_n 0, 1) := by decide +kernel
theorem dX0_seasonOf_1 : decode cX0_seasonOf 1 = .ok (.sipush 365, 3) := by decide +kernel
theorem dX0_seasonOf_4 : decode cX0_seasonOf 4 = .ok (.irem, 1) := by decide +kernel
theorem dX0_seasonOf_5 : decode cX0_seasonOf 5 = .ok (.bipush 92, 2) := by decide +kernel
theorem dX0_seasonOf_7 : decode cX0_seasonOf 7 = .ok (.idiv, 1) := by decide +kernel
theorem dX0_seasonOf_8 : decode cX0_seasonOf 8 = .ok (.ireturn, 1) := by decide +kernel
set_option maxRecDepth 20000 in
theorem ggX0_isOwner_X0_isBetween : GoodIn wsX0_isOwner wsX0_isBetween := goodIn_r _ [4] (by decide +kernel) (by decide +kernel)
set_option maxRecDepth 20000 in
theorem gX0_isOwner_X0_isBetween : GoodIn wsX0_isOwner (va_wsS RX0 60 yX0_isBetween wsX0_isBetween) := goodIn_app (goodIn_of _ (by decide +kernel)) ggX0_isOwner_X0_isBetween
theorem dX0_isOwner_0 : decode cX0_isOwner 0 = .ok (.iload_n 0, 1) := by decide +kernel
theorem dX0_isOwner_1 : decode cX0_isOwner 1 = .ok (.iconst 0, 1) := by decide +kernel
theorem dX0_isOwner_2 : decode cX0_isOwner 2 = .ok (.iconst 4, 1) := by decide +kernel
theorem dX0_isOwner_3 : decode cX0_isOwner 3 = .ok (.invokestatic 60, 3) := by decide +kernel
theorem dX0_isOwner_6 : decode cX0_isOwner 6 = .ok (.ireturn, 1) := by decide +kernel
set_option maxRecDepth 20000 in
theorem ggX0_isHymn_X0_isBetween : GoodIn wsX0_isHymn wsX0_isBetween := goodIn_r _ [5] (by decide +kernel) (by decide +kernel)
set_option maxRecDepth 20000 in
theorem gX0_isHymn_X0_isBetween : GoodIn wsX0_isHymn (va_wsS RX0 60 yX0_isBetween wsX0_isBetween) := goodIn_app (goodIn_of _ (by decide +kernel)) ggX0_isHymn_X0_isBetween
theorem dX0_isHymn_0 : decode cX0_isHymn 0 = .ok (.iload_n 1, 1) := by decide +kernel
theorem dX0_isHymn_1 : decode cX0_isHymn 1 = .ok (.iconst 0, 1) := by decide +kernel
theorem dX0_isHymn_2 : decode cX0_isHymn 2 = .ok (.aload_n 0, 1) := by decide +kernel
theorem dX0_isHymn_3 : decode cX0_isHymn 3 = .ok (.getfield 67, 3) := by decide +kernel
theorem dX0_isHymn_6 : decode cX0_isHymn 6 = .ok (.iconst 1, 1) := by decide +kernel
theorem dX0_isHymn_7 : decode cX0_isHymn 7 = .ok (.isub, 1) := by decide +kernel
theorem dX0_isHymn_8 : decode cX0_isHymn 8 = .ok (.invokestatic 60, 3) := by decide +kernel
theorem dX0_isHymn_11 : decode cX0_isHymn 11 = .ok (.ireturn, 1) := by decide +kernel
set_option maxRecDepth 20000 in
theorem ggX0_isRight_X0_isBetween : GoodIn wsX0_isRight wsX0_isBetween := goodIn_r _ [5] (by decide +kernel) (by decide +kernel)
set_option maxRecDepth 20000 in
theorem gX0_isRight_X0_isBetween : GoodIn wsX0_isRight (va_wsS RX0 60 yX0_isBetween wsX0_isBetween) := goodIn_app (goodIn_of _ (by decide +kernel)) ggX0_isRight_X0_isBetween
theorem dX0_isRight_0 : decode cX0_isRight 0 = .ok (.iload_n 1, 1) := by decide +kernel
theorem dX0_isRight_1 : decode cX0_isRight 1 = .ok (.iconst 0, 1) := by decide +kernel
theorem dX0_isRight_2 : decode cX0_isRight 2 = .ok (.aload_n 0, 1) := by decide +kernel
theorem dX0_isRight_3 : decode cX0_isRight 3 = .ok (.getfield 103, 3) := by decide +kernel
theorem dX0_isRight_6 : decode cX0_isRight 6 = .ok (.iconst 1, 1) := by decide +kernel
theorem dX0_isRight_7 : decode cX0_isRight 7 = .ok (.isub, 1) := by decide +kernel
theorem dX0_isRight_8 : decode cX0_isRight 8 = .ok (.invokestatic 60, 3) := by decide +kernel
theorem dX0_isRight_11 : decode cX0_isRight 11 = .ok (.ireturn, 1) := by decide +kernel
set_option maxRecDepth 20000 in
theorem ggX0_isService_X0_isBetween : GoodIn wsX0_isService wsX0_isBetween := goodIn_r _ [5] (by decide +kernel) (by decide +kernel)
set_option maxRecDepth 20000 in
theorem gX0_isService_X0_isBetween : GoodIn wsX0_isService (va_wsS RX0 60 yX0_isBetween wsX0_isBetween) := goodIn_app (goodIn_of _ (by decide +kernel)) ggX0_isService_X0_isBetween
theorem dX0_isService_0 : decode cX0_isService 0 = .ok (.iload_n 1, 1) := by decide +kernel
theorem dX0_isService_1 : decode cX0_isService 1 = .ok (.iconst 0, 1) := by decide +kernel
theorem dX0_isService_2 : decode cX0_isService 2 = .ok (.aload_n 0, 1) := by decide +kernel
theorem dX0_isService_3 : decode cX0_isService 3 = .ok (.getfield 137, 3) := by decide +kernel
theorem dX0_isService_6 : decode cX0_isService 6 = .ok (.iconst 1, 1) := by decide +kernel
theorem dX0_isService_7 : decode cX0_isService 7 = .ok (.isub, 1) := by decide +kernel
theorem dX0_isService_8 : decode cX0_isService 8 = .ok (.invokestatic 60, 3) := by decide +kernel
theorem dX0_isService_11 : decode cX0_isService 11 = .ok (.ireturn, 1) := by decide +kernel
set_option maxRecDepth 20000 in
theorem ggX0_isChoir_X0_isBetween : GoodIn wsX0_isChoir wsX0_isBetween := goodIn_r _ [4] (by decide +kernel) (by decide +kernel)
set_option maxRecDepth 20000 in
theorem gX0_isChoir_X0_isBetween : GoodIn wsX0_isChoir (va_wsS RX0 60 yX0_isBetween wsX0_isBetween) := goodIn_app (goodIn_of _ (by decide +kernel)) ggX0_isChoir_X0_isBetween
theorem dX0_isChoir_0 : decode cX0_isChoir 0 = .ok (.iload_n 0, 1) := by decide +kernel
theorem dX0_isChoir_1 : decode cX0_isChoir 1 = .ok (.iconst 0, 1) := by decide +kernel
theorem dX0_isChoir_2 : decode cX0_isChoir 2 = .ok (.iconst 3, 1) := by decide +kernel
theorem dX0_isChoir_3 : decode cX0_isChoir 3 = .ok (.invokestatic 60, 3) := by decide +kernel
theorem dX0_isChoir_6 : decode cX0_isChoir 6 = .ok (.ireturn, 1) := by decide +kernel
set_option maxRecDepth 20000 in
theorem ggX0_isUse_X0_isBetween : GoodIn wsX0_isUse wsX0_isBetween := goodIn_r _ [4] (by decide +kernel) (by decide +kernel)
set_option maxRecDepth 20000 in
theorem gX0_isUse_X0_isBetween : GoodIn wsX0_isUse (va_wsS RX0 60 yX0_isBetween wsX0_isBetween) := goodIn_app (goodIn_of _ (by decide +kernel)) ggX0_isUse_X0_isBetween
theorem dX0_isUse_0 : decode cX0_isUse 0 = .ok (.iload_n 0, 1) := by decide +kernel
theorem dX0_isUse_1 : decode cX0_isUse 1 = .ok (.iconst 0, 1) := by decide +kernel
theorem dX0_isUse_2 : decode cX0_isUse 2 = .ok (.iconst 1, 1) := by decide +kernel
theorem dX0_isUse_3 : decode cX0_isUse 3 = .ok (.invokestatic 60, 3) := by decide +kernel
theorem dX0_isUse_6 : decode cX0_isUse 6 = .ok (.ireturn, 1) := by decide +kernel
set_option maxRecDepth 20000 in
theorem ggX0_isDay_X0_isBetween : GoodIn wsX0_isDay wsX0_isBetween := goodIn_r _ [4] (by decide +kernel) (by decide +kernel)
set_option maxRecDepth 20000 in
theorem gX0_isDay_X0_isBetween : GoodIn wsX0_isDay (va_wsS RX0 60 yX0_isBetween wsX0_isBetween) := goodIn_app (goodIn_of _ (by decide +kernel)) ggX0_isDay_X0_isBetween
theorem dX0_isDay_0 : decode cX0_isDay 0 = .ok (.iload_n 0, 1) := by decide +kernel
theorem dX0_isDay_1 : decode cX0_isDay 1 = .ok (.iconst 0, 1) := by decide +kernel
theorem dX0_isDay_2 : decode cX0_isDay 2 = .ok (.sipush 1459, 3) := by decide +kernel
theorem dX0_isDay_5 : decode cX0_isDay 5 = .ok (.invokestatic 60, 3) := by decide +kernel
theorem dX0_isDay_8 : decode cX0_isDay 8 = .ok (.ireturn, 1) := by decide +kernel
set_option maxRecDepth 20000 in
theorem ggX0_isYear_X0_isBetween : GoodIn wsX0_isYear wsX0_isBetween := goodIn_r _ [4] (by decide +kernel) (by decide +kernel)
set_option maxRecDepth 20000 in
theorem gX0_isYear_X0_isBetween : GoodIn wsX0_isYear (va_wsS RX0 60 yX0_isBetween wsX0_isBetween) := goodIn_app (goodIn_of _ (by decide +kernel)) ggX0_isYear_X0_isBetween
theorem dX0_isYear_0 : decode cX0_isYear 0 = .ok (.iload_n 0, 1) := by decide +kernel
theorem dX0_isYear_1 : decode cX0_isYear 1 = .ok (.iconst 0, 1) := by decide +kernel
theorem dX0_isYear_2 : decode cX0_isYear 2 = .ok (.iconst 3, 1) := by decide +kernel
theorem dX0_isYear_3 : decode cX0_isYear 3 = .ok (.invokestatic 60, 3) := by decide +kernel
theorem dX0_isYear_6 : decode cX0_isYear 6 = .ok (.ireturn, 1) := by decide +kernel
theorem dX0_isBetween_0 : decode cX0_isBetween 0 = .ok (.iload_n 1, 1) := by decide +kernel
theorem dX0_isBetween_1 : decode cX0_isBetween 1 = .ok (.iload_n 0, 1) := by decide +kernel
theorem dX0_isBetween_2 : decode cX0_isBetween 2 = .ok (.if_icmp .gt 12, 3) := by decide +kernel
theorem dX0_isBetween_5 : decode cX0_isBetween 5 = .ok (.iload_n 0, 1) := by decide +kernel
theorem dX0_isBetween_6 : decode cX0_isBetween 6 = .ok (.iload_n 2, 1) := by decide +kernel
theorem dX0_isBetween_7 : decode cX0_isBetween 7 = .ok (.if_icmp .gt 7, 3) := by decide +kernel
theorem dX0_isBetween_10 : decode cX0_isBetween 10 = .ok (.iconst 1, 1) := by decide +kernel
theorem dX0_isBetween_11 : decode cX0_isBetween 11 = .ok (.goto 4, 3) := by decide +kernel
theorem dX0_isBetween_14 : decode cX0_isBetween 14 = .ok (.iconst 0, 1) := by decide +kernel
theorem dX0_isBetween_15 : decode cX0_isBetween 15 = .ok (.ireturn, 1) := by decide +kernel
theorem dX0_isInSet_0 : decode cX0_isInSet 0 = .ok (.lload_n 1, 1) := by decide +kernel
theorem dX0_isInSet_1 : decode cX0_isInSet 1 = .ok (.iload_n 0, 1) := by decide +kernel
theorem dX0_isInSet_2 : decode cX0_isInSet 2 = .ok (.lshr, 1) := by decide +kernel
theorem dX0_isInSet_3 : decode cX0_isInSet 3 = .ok (.lconst 1, 1) := by decide +kernel
theorem dX0_isInSet_4 : decode cX0_isInSet 4 = .ok (.land, 1) := by decide +kernel
theorem dX0_isInSet_5 : decode cX0_isInSet 5 = .ok (.lconst 1, 1) := by decide +kernel
theorem dX0_isInSet_6 : decode cX0_isInSet 6 = .ok (.lcmp, 1) := by decide +kernel
theorem dX0_isInSet_7 : decode cX0_isInSet 7 = .ok (.ifCond .ne 7, 3) := by decide +kernel
theorem dX0_isInSet_10 : decode cX0_isInSet 10 = .ok (.iconst 1, 1) := by decide +kernel
theorem dX0_isInSet_11 : decode cX0_isInSet 11 = .ok (.goto 4, 3) := by decide +kernel
theorem dX0_isInSet_14 : decode cX0_isInSet 14 = .ok (.iconst 0, 1) := by decide +kernel
theorem dX0_isInSet_15 : decode cX0_isInSet 15 = .ok (.ireturn, 1) := by decide +kernel
theorem dX0_needIndex_0 : decode cX0_needIndex 0 = .ok (.iload_n 0, 1) := by decide +kernel
theorem dX0_needIndex_1 : decode cX0_needIndex 1 = .ok (.ifCond .ne 11, 3) := by decide +kernel
theorem dX0_needIndex_4 : decode cX0_needIndex 4 = .ok (.new 180, 3) := by decide +kernel
theorem dX0_needIndex_7 : decode cX0_needIndex 7 = .ok (.dup, 1) := by decide +kernel
theorem dX0_needIndex_8 : decode cX0_needIndex 8 = .ok (.invokespecial 182, 3) := by decide +kernel
theorem dX0_needIndex_11 : decode cX0_needIndex 11 = .ok (.athrow, 1) := by decide +kernel
theorem dX0_needIndex_12 : decode cX0_needIndex 12 = .ok (.return_, 1) := by decide +kernel
theorem dX0_needArgument_0 : decode cX0_needArgument 0 = .ok (.iload_n 0, 1) := by decide +kernel
theorem dX0_needArgument_1 : decode cX0_needArgument 1 = .ok (.ifCond .ne 11, 3) := by decide +kernel
theorem dX0_needArgument_4 : decode cX0_needArgument 4 = .ok (.new 183, 3) := by decide +kernel
theorem dX0_needArgument_7 : decode cX0_needArgument 7 = .ok (.dup, 1) := by decide +kernel
theorem dX0_needArgument_8 : decode cX0_needArgument 8 = .ok (.invokespecial 185, 3) := by decide +kernel
theorem dX0_needArgument_11 : decode cX0_needArgument 11 = .ok (.athrow, 1) := by decide +kernel
theorem dX0_needArgument_12 : decode cX0_needArgument 12 = .ok (.return_, 1) := by decide +kernel
theorem dX0_needState_0 : decode cX0_needState 0 = .ok (.iload_n 0, 1) := by decide +kernel
theorem dX0_needState_1 : decode cX0_needState 1 = .ok (.ifCond .ne 11, 3) := by decide +kernel
theorem dX0_needState_4 : decode cX0_needState 4 = .ok (.new 186, 3) := by decide +kernel
theorem dX0_needState_7 : decode cX0_needState 7 = .ok (.dup, 1) := by decide +kernel
theorem dX0_needState_8 : decode cX0_needState 8 = .ok (.invokespecial 188, 3) := by decide +kernel
theorem dX0_needState_11 : decode cX0_needState 11 = .ok (.athrow, 1) := by decide +kernel
theorem dX0_needState_12 : decode cX0_needState 12 = .ok (.return_, 1) := by decide +kernel

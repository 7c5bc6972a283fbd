theorem dX9_answers_1 : decode cX9_answers 1 = .ok (.iload_n 1, 1) := by decide +kernel
theorem dX9_answers_2 : decode cX9_answers 2 = .ok (.iconst 0, 1) := by decide +kernel
theorem dX9_answers_3 : decode cX9_answers 3 = .ok (.invokevirtual 137, 3) := by decide +kernel
theorem dX9_answers_6 : decode cX9_answers 6 = .ok (.iconst 3, 1) := by decide +kernel
theorem dX9_answers_7 : decode cX9_answers 7 = .ok (.if_icmp .ne 14, 3) := by decide +kernel
theorem dX9_answers_10 : decode cX9_answers 10 = .ok (.aload_n 0, 1) := by decide +kernel
theorem dX9_answers_11 : decode cX9_answers 11 = .ok (.iload_n 1, 1) := by decide +kernel
theorem dX9_answers_12 : decode cX9_answers 12 = .ok (.iconst 3, 1) := by decide +kernel
theorem dX9_answers_13 : decode cX9_answers 13 = .ok (.invokevirtual 134, 3) := by decide +kernel
theorem dX9_answers_16 : decode cX9_answers 16 = .ok (.aload_n 0, 1) := by decide +kernel
theorem dX9_answers_17 : decode cX9_answers 17 = .ok (.iload_n 1, 1) := by decide +kernel
theorem dX9_answers_18 : decode cX9_answers 18 = .ok (.invokevirtual 153, 3) := by decide +kernel
theorem dX9_answers_21 : decode cX9_answers 21 = .ok (.return_, 1) := by decide +kernel
set_option maxRecDepth 20000 in
theorem ggX9_hearsInAgree_X9_ear : GoodIn wsX9_hearsInAgree wsX9_ear := goodIn_r _ [5, 6, 36, 37, 38, 39, 40, 41, 42, 43, 44, 45, 46, 47, 48, 49, 50, 51, 52, 53, 54, 55, 56, 57, 58, 59, 60, 61, 62, 63, 64, 65] (by decide +kernel) (by decide +kernel)
set_option maxRecDepth 20000 in
theorem gX9_hearsInAgree_X9_ear : GoodIn wsX9_hearsInAgree (wsV RX9 137 RX9 yX9_ear wsX9_ear) := goodIn_app (goodIn_of _ (by decide +kernel)) ggX9_hearsInAgree_X9_ear
set_option maxRecDepth 20000 in
theorem ggX9_hearsInAgree_X9_of : GoodIn wsX9_hearsInAgree wsX9_of := goodIn_r _ [10, 11, 36, 37, 38, 39, 40, 41, 42, 43, 44, 45, 46, 47, 48, 49, 50, 51, 52, 53, 54, 55, 56, 57, 58, 59, 60, 61, 62, 63, 64, 65] (by decide +kernel) (by decide +kernel)
set_option maxRecDepth 20000 in
theorem gX9_hearsInAgree_X9_of : GoodIn wsX9_hearsInAgree (wsV RX9 106 RX9 yX9_of wsX9_of) := goodIn_app (goodIn_of _ (by decide +kernel)) ggX9_hearsInAgree_X9_of
set_option maxRecDepth 20000 in
theorem ggX9_hearsInAgree_X9_into : GoodIn wsX9_hearsInAgree wsX9_into := goodIn_r _ [15, 16, 17, 18, 19, 20, 21, 22, 4, 23, 24, 25, 26, 27, 11, 7, 8, 9, 10, 28, 29, 30, 31, 36, 37, 38, 39, 40, 41, 42, 43, 44, 45, 46, 47, 48, 49, 50, 51, 52, 53, 54, 55, 56, 57, 58, 59, 60, 61, 62, 63, 64, 65] (by decide +kernel) (by decide +kernel)
set_option maxRecDepth 20000 in
theorem gX9_hearsInAgree_X9_into : GoodIn wsX9_hearsInAgree (wsV RX9 134 RX9 yX9_into wsX9_into) := goodIn_app (goodIn_of _ (by decide +kernel)) ggX9_hearsInAgree_X9_into
set_option maxRecDepth 20000 in
theorem ggX9_hearsInAgree_X9_hearsOffer : GoodIn wsX9_hearsInAgree wsX9_hearsOffer := goodIn_r _ [35, 1, 2, 3, 4, 5, 6, 7, 8, 9, 10, 11, 24, 25, 26, 27, 12, 13, 14, 15, 16, 17, 18, 19, 20, 21, 22, 23, 28, 29, 30, 31, 36, 37, 38, 39, 40, 41, 42, 43, 44, 45, 46, 47, 48, 49, 50, 51, 52, 53, 54, 55, 56, 57, 58, 59, 60, 61, 62, 63, 64, 65] (by decide +kernel) (by decide +kernel)
set_option maxRecDepth 20000 in
theorem gX9_hearsInAgree_X9_hearsOffer : GoodIn wsX9_hearsInAgree (wsV RX9 143 RX9 yX9_hearsOffer wsX9_hearsOffer) := goodIn_app (goodIn_of _ (by decide +kernel)) ggX9_hearsInAgree_X9_hearsOffer
theorem dX9_hearsInAgree_0 : decode cX9_hearsInAgree 0 = .ok (.aload_n 0, 1) := by decide +kernel
theorem dX9_hearsInAgree_1 : decode cX9_hearsInAgree 1 = .ok (.iload_n 1, 1) := by decide +kernel
theorem dX9_hearsInAgree_2 : decode cX9_hearsInAgree 2 = .ok (.iconst 0, 1) := by decide +kernel
theorem dX9_hearsInAgree_3 : decode cX9_hearsInAgree 3 = .ok (.invokevirtual 137, 3) := by decide +kernel
theorem dX9_hearsInAgree_6 : decode cX9_hearsInAgree 6 = .ok (.bipush 6, 2) := by decide +kernel
theorem dX9_hearsInAgree_8 : decode cX9_hearsInAgree 8 = .ok (.if_icmp .eq 14, 3) := by decide +kernel
theorem dX9_hearsInAgree_11 : decode cX9_hearsInAgree 11 = .ok (.aload_n 0, 1) := by decide +kernel
theorem dX9_hearsInAgree_12 : decode cX9_hearsInAgree 12 = .ok (.iload_n 1, 1) := by decide +kernel
theorem dX9_hearsInAgree_13 : decode cX9_hearsInAgree 13 = .ok (.iconst 0, 1) := by decide +kernel
theorem dX9_hearsInAgree_14 : decode cX9_hearsInAgree 14 = .ok (.invokevirtual 137, 3) := by decide +kernel
theorem dX9_hearsInAgree_17 : decode cX9_hearsInAgree 17 = .ok (.bipush 7, 2) := by decide +kernel
theorem dX9_hearsInAgree_19 : decode cX9_hearsInAgree 19 = .ok (.if_icmp .ne 28, 3) := by decide +kernel
theorem dX9_hearsInAgree_22 : decode cX9_hearsInAgree 22 = .ok (.aload_n 0, 1) := by decide +kernel
theorem dX9_hearsInAgree_23 : decode cX9_hearsInAgree 23 = .ok (.iload_n 1, 1) := by decide +kernel
theorem dX9_hearsInAgree_24 : decode cX9_hearsInAgree 24 = .ok (.iconst 1, 1) := by decide +kernel
theorem dX9_hearsInAgree_25 : decode cX9_hearsInAgree 25 = .ok (.invokevirtual 137, 3) := by decide +kernel
theorem dX9_hearsInAgree_28 : decode cX9_hearsInAgree 28 = .ok (.aload_n 0, 1) := by decide +kernel
theorem dX9_hearsInAgree_29 : decode cX9_hearsInAgree 29 = .ok (.iload_n 1, 1) := by decide +kernel
theorem dX9_hearsInAgree_30 : decode cX9_hearsInAgree 30 = .ok (.iconst 2, 1) := by decide +kernel
theorem dX9_hearsInAgree_31 : decode cX9_hearsInAgree 31 = .ok (.invokevirtual 106, 3) := by decide +kernel
theorem dX9_hearsInAgree_34 : decode cX9_hearsInAgree 34 = .ok (.if_icmp .ne 13, 3) := by decide +kernel
theorem dX9_hearsInAgree_37 : decode cX9_hearsInAgree 37 = .ok (.aload_n 0, 1) := by decide +kernel
theorem dX9_hearsInAgree_38 : decode cX9_hearsInAgree 38 = .ok (.iload_n 1, 1) := by decide +kernel
theorem dX9_hearsInAgree_39 : decode cX9_hearsInAgree 39 = .ok (.bipush 7, 2) := by decide +kernel
theorem dX9_hearsInAgree_41 : decode cX9_hearsInAgree 41 = .ok (.invokevirtual 134, 3) := by decide +kernel
theorem dX9_hearsInAgree_44 : decode cX9_hearsInAgree 44 = .ok (.goto 8, 3) := by decide +kernel
theorem dX9_hearsInAgree_47 : decode cX9_hearsInAgree 47 = .ok (.aload_n 0, 1) := by decide +kernel
theorem dX9_hearsInAgree_48 : decode cX9_hearsInAgree 48 = .ok (.iload_n 1, 1) := by decide +kernel
theorem dX9_hearsInAgree_49 : decode cX9_hearsInAgree 49 = .ok (.invokevirtual 143, 3) := by decide +kernel
theorem dX9_hearsInAgree_52 : decode cX9_hearsInAgree 52 = .ok (.return_, 1) := by decide +kernel
set_option maxRecDepth 20000 in
theorem ggX9_hearsIn_X9_of : GoodIn wsX9_hearsIn wsX9_of := goodIn_r _ [5, 6, 68, 69, 70, 71, 72, 73, 74, 75, 76, 77, 78, 79, 80, 81, 82, 83, 84, 85, 86, 87, 88, 89, 90, 91, 92, 93, 94, 95, 96, 97] (by decide +kernel) (by decide +kernel)
set_option maxRecDepth 20000 in
theorem gX9_hearsIn_X9_of : GoodIn wsX9_hearsIn (wsV RX9 106 RX9 yX9_of wsX9_of) := goodIn_app (goodIn_of _ (by decide +kernel)) ggX9_hearsIn_X9_of
set_option maxRecDepth 20000 in
theorem ggX9_hearsIn_X9_ear : GoodIn wsX9_hearsIn wsX9_ear := goodIn_r _ [10, 11, 68, 69, 70, 71, 72, 73, 74, 75, 76, 77, 78, 79, 80, 81, 82, 83, 84, 85, 86, 87, 88, 89, 90, 91, 92, 93, 94, 95, 96, 97] (by decide +kernel) (by decide +kernel)
set_option maxRecDepth 20000 in
theorem gX9_hearsIn_X9_ear : GoodIn wsX9_hearsIn (wsV RX9 137 RX9 yX9_ear wsX9_ear) := goodIn_app (goodIn_of _ (by decide +kernel)) ggX9_hearsIn_X9_ear
set_option maxRecDepth 20000 in
theorem ggX9_hearsIn_X9_into : GoodIn wsX9_hearsIn wsX9_into := goodIn_r _ [15, 16, 17, 18, 19, 20, 21, 22, 4, 23, 24, 25, 26, 27, 6, 1, 2, 3, 5, 28, 29, 30, 31, 68, 69, 70, 71, 72, 73, 74, 75, 76, 77, 78, 79, 80, 81, 82, 83, 84, 85, 86, 87, 88, 89, 90, 91, 92, 93, 94, 95, 96, 97] (by decide +kernel) (by decide +kernel)
set_option maxRecDepth 20000 in
theorem gX9_hearsIn_X9_into : GoodIn wsX9_hearsIn (wsV RX9 134 RX9 yX9_into wsX9_into) := goodIn_app (goodIn_of _ (by decide +kernel)) ggX9_hearsIn_X9_into
set_option maxRecDepth 20000 in
theorem ggX9_hearsIn_X9_answers : GoodIn wsX9_hearsIn wsX9_answers := goodIn_r _ [35, 7, 8, 9, 4, 10, 11, 12, 13, 14, 15, 16, 17, 18, 19, 20, 21, 22, 23, 24, 25, 26, 27, 6, 1, 2, 3, 5, 28, 29, 30, 31, 36, 37, 38, 39, 40, 68, 69, 70, 71, 72, 73, 74, 75, 76, 77, 78, 79, 80, 81, 82, 83, 84, 85, 86, 87, 88, 89, 90, 91, 92, 93, 94, 95, 96, 97] (by decide +kernel) (by decide +kernel)
set_option maxRecDepth 20000 in
theorem gX9_hearsIn_X9_answers : GoodIn wsX9_hearsIn (wsV RX9 156 RX9 yX9_answers wsX9_answers) := goodIn_app (goodIn_of _ (by decide +kernel)) ggX9_hearsIn_X9_answers
set_option maxRecDepth 20000 in
theorem ggX9_hearsIn_X9_note : GoodIn wsX9_hearsIn wsX9_note := goodIn_r _ [39, 18, 40, 7, 8, 9, 4, 10, 11, 68, 69, 70, 71, 72, 73, 74, 75, 76, 77, 78, 79, 80, 81, 82, 83, 84, 85, 86, 87, 88, 89, 90, 91, 92, 93, 94, 95, 96, 97] (by decide +kernel) (by decide +kernel)
set_option maxRecDepth 20000 in
theorem gX9_hearsIn_X9_note : GoodIn wsX9_hearsIn (wsV RX9 153 RX9 yX9_note wsX9_note) := goodIn_app (goodIn_of _ (by decide +kernel)) ggX9_hearsIn_X9_note
set_option maxRecDepth 20000 in
theorem ggX9_hearsIn_X9_bargains : GoodIn wsX9_hearsIn wsX9_bargains := goodIn_r _ [44, 7, 8, 9, 4, 10, 11, 1, 2, 3, 5, 6, 45, 46, 47, 48, 24, 25, 26, 27, 12, 13, 14, 15, 16, 17, 18, 19, 20, 21, 22, 23, 28, 29, 30, 31, 49, 50, 51, 52, 68, 69, 70, 71, 72, 73, 74, 75, 76, 77, 78, 79, 80, 81, 82, 83, 84, 85, 86, 87, 88, 89, 90, 91, 92, 93, 94, 95, 96, 97] (by decide +kernel) (by decide +kernel)
set_option maxRecDepth 20000 in
theorem gX9_hearsIn_X9_bargains : GoodIn wsX9_hearsIn (wsV RX9 159 RX9 yX9_bargains wsX9_bargains) := goodIn_app (goodIn_of _ (by decide +kernel)) ggX9_hearsIn_X9_bargains
set_option maxRecDepth 20000 in
theorem ggX9_hearsIn_X9_hearsInAgree : GoodIn wsX9_hearsIn wsX9_hearsInAgree := goodIn_r _ [56, 7, 8, 9, 4, 10, 11, 1, 2, 3, 5, 6, 12, 13, 14, 15, 16, 17, 18, 19, 20, 21, 22, 23, 24, 25, 26, 27, 28, 29, 30, 31, 49, 50, 51, 52, 68, 69, 70, 71, 72, 73, 74, 75, 76, 77, 78, 79, 80, 81, 82, 83, 84, 85, 86, 87, 88, 89, 90, 91, 92, 93, 94, 95, 96, 97] (by decide +kernel) (by decide +kernel)
set_option maxRecDepth 20000 in
theorem gX9_hearsIn_X9_hearsInAgree : GoodIn wsX9_hearsIn (wsV RX9 162 RX9 yX9_hearsInAgree wsX9_hearsInAgree) := goodIn_app (goodIn_of _ (by decide +kernel)) ggX9_hearsIn_X9_hearsInAgree
set_option maxRecDepth 20000 in
theorem ggX9_hearsIn_X9_hearsInData : GoodIn wsX9_hearsIn wsX9_hearsInData := goodIn_r _ [60, 61, 16, 1, 2, 3, 4, 5, 6, 7, 8, 9, 10, 11, 24, 25, 26, 27, 49, 50, 51, 52, 12, 13, 14, 15, 17, 18, 19, 20, 21, 22, 23, 28, 29, 30, 31, 62, 63, 64, 65, 66, 67, 68, 69, 70, 71, 72, 73, 74, 75, 76, 77, 78, 79, 80, 81, 82, 83, 84, 85, 86, 87, 88, 89, 90, 91, 92, 93, 94, 95, 96, 97] (by decide +kernel) (by decide +kernel)
set_option maxRecDepth 20000 in
theorem gX9_hearsIn_X9_hearsInData : GoodIn wsX9_hearsIn (wsV RX9 165 RX9 yX9_hearsInData wsX9_hearsInData) := goodIn_app (goodIn_of _ (by decide +kernel)) ggX9_hearsIn_X9_hearsInData
theorem dX9_hearsIn_0 : decode cX9_hearsIn 0 = .ok (.aload_n 0, 1) := by decide +kernel
theorem dX9_hearsIn_1 : decode cX9_hearsIn 1 = .ok (.iload_n 1, 1) := by decide +kernel
theorem dX9_hearsIn_2 : decode cX9_hearsIn 2 = .ok (.iconst 0, 1) := by decide +kernel
theorem dX9_hearsIn_3 : decode cX9_hearsIn 3 = .ok (.invokevirtual 106, 3) := by decide +kernel
theorem dX9_hearsIn_6 : decode cX9_hearsIn 6 = .ok (.tableswitch 125 0 6 #[42, 61, 80, 88, 106, 109, 117], 42) := by decide +kernel
theorem dX9_hearsIn_48 : decode cX9_hearsIn 48 = .ok (.aload_n 0, 1) := by decide +kernel
theorem dX9_hearsIn_49 : decode cX9_hearsIn 49 = .ok (.iload_n 1, 1) := by decide +kernel
theorem dX9_hearsIn_50 : decode cX9_hearsIn 50 = .ok (.iconst 0, 1) := by decide +kernel
theorem dX9_hearsIn_51 : decode cX9_hearsIn 51 = .ok (.invokevirtual 137, 3) := by decide +kernel
theorem dX9_hearsIn_54 : decode cX9_hearsIn 54 = .ok (.iconst 1, 1) := by decide +kernel
theorem dX9_hearsIn_55 : decode cX9_hearsIn 55 = .ok (.if_icmp .ne 81, 3) := by decide +kernel
theorem dX9_hearsIn_58 : decode cX9_hearsIn 58 = .ok (.aload_n 0, 1) := by decide +kernel
theorem dX9_hearsIn_59 : decode cX9_hearsIn 59 = .ok (.iload_n 1, 1) := by decide +kernel
theorem dX9_hearsIn_60 : decode cX9_hearsIn 60 = .ok (.iconst 2, 1) := by decide +kernel
theorem dX9_hearsIn_61 : decode cX9_hearsIn 61 = .ok (.invokevirtual 134, 3) := by decide +kernel
theorem dX9_hearsIn_64 : decode cX9_hearsIn 64 = .ok (.goto 72, 3) := by decide +kernel
theorem dX9_hearsIn_67 : decode cX9_hearsIn 67 = .ok (.aload_n 0, 1) := by decide +kernel
theorem dX9_hearsIn_68 : decode cX9_hearsIn 68 = .ok (.iload_n 1, 1) := by decide +kernel
theorem dX9_hearsIn_69 : decode cX9_hearsIn 69 = .ok (.iconst 0, 1) := by decide +kernel
theorem dX9_hearsIn_70 : decode cX9_hearsIn 70 = .ok (.invokevirtual 137, 3) := by decide +kernel
theorem dX9_hearsIn_73 : decode cX9_hearsIn 73 = .ok (.iconst 2, 1) := by decide +kernel
theorem dX9_hearsIn_74 : decode cX9_hearsIn 74 = .ok (.if_icmp .ne 62, 3) := by decide +kernel
theorem dX9_hearsIn_77 : decode cX9_hearsIn 77 = .ok (.aload_n 0, 1) := by decide +kernel
theorem dX9_hearsIn_78 : decode cX9_hearsIn 78 = .ok (.iload_n 1, 1) := by decide +kernel
theorem dX9_hearsIn_79 : decode cX9_hearsIn 79 = .ok (.iconst 3, 1) := by decide +kernel
theorem dX9_hearsIn_80 : decode cX9_hearsIn 80 = .ok (.invokevirtual 134, 3) := by decide +kernel
theorem dX9_hearsIn_83 : decode cX9_hearsIn 83 = .ok (.goto 53, 3) := by decide +kernel
theorem dX9_hearsIn_86 : decode cX9_hearsIn 86 = .ok (.aload_n 0, 1) := by decide +kernel
theorem dX9_hearsIn_87 : decode cX9_hearsIn 87 = .ok (.iload_n 1, 1) := by decide +kernel
theorem dX9_hearsIn_88 : decode cX9_hearsIn 88 = .ok (.invokevirtual 156, 3) := by decide +kernel
theorem dX9_hearsIn_91 : decode cX9_hearsIn 91 = .ok (.goto 45, 3) := by decide +kernel
theorem dX9_hearsIn_94 : decode cX9_hearsIn 94 = .ok (.aload_n 0, 1) := by decide +kernel
theorem dX9_hearsIn_95 : decode cX9_hearsIn 95 = .ok (.iload_n 1, 1) := by decide +kernel
theorem dX9_hearsIn_96 : decode cX9_hearsIn 96 = .ok (.iconst 0, 1) := by decide +kernel
theorem dX9_hearsIn_97 : decode cX9_hearsIn 97 = .ok (.invokevirtual 137, 3) := by decide +kernel
theorem dX9_hearsIn_100 : decode cX9_hearsIn 100 = .ok (.iconst 3, 1) := by decide +kernel
theorem dX9_hearsIn_101 : decode cX9_hearsIn 101 = .ok (.if_icmp .ne 35, 3) := by decide +kernel
theorem dX9_hearsIn_104 : decode cX9_hearsIn 104 = .ok (.aload_n 0, 1) := by decide +kernel
theorem dX9_hearsIn_105 : decode cX9_hearsIn 105 = .ok (.iload_n 1, 1) := by decide +kernel
theorem dX9_hearsIn_106 : decode cX9_hearsIn 106 = .ok (.invokevirtual 153, 3) := by decide +kernel
theorem dX9_hearsIn_109 : decode cX9_hearsIn 109 = .ok (.goto 27, 3) := by decide +kernel
theorem dX9_hearsIn_112 : decode cX9_hearsIn 112 = .ok (.goto 24, 3) := by decide +kernel
theorem dX9_hearsIn_115 : decode cX9_hearsIn 115 = .ok (.aload_n 0, 1) := by decide +kernel
theorem dX9_hearsIn_116 : decode cX9_hearsIn 116 = .ok (.iload_n 1, 1) := by decide +kernel
theorem dX9_hearsIn_117 : decode cX9_hearsIn 117 = .ok (.invokevirtual 159, 3) := by decide +kernel
theorem dX9_hearsIn_120 : decode cX9_hearsIn 120 = .ok (.goto 16, 3) := by decide +kernel
theorem dX9_hearsIn_123 : decode cX9_hearsIn 123 = .ok (.aload_n 0, 1) := by decide +kernel
theorem dX9_hearsIn_124 : decode cX9_hearsIn 124 = .ok (.iload_n 1, 1) := by decide +kernel
theorem dX9_hearsIn_125 : decode cX9_hearsIn 125 = .ok (.invokevirtual 162, 3) := by decide +kernel
theorem dX9_hearsIn_128 : decode cX9_hearsIn 128 = .ok (.goto 8, 3) := by decide +kernel
theorem dX9_hearsIn_131 : decode cX9_hearsIn 131 = .ok (.aload_n 0, 1) := by decide +kernel
theorem dX9_hearsIn_132 : decode cX9_hearsIn 132 = .ok (.iload_n 1, 1) := by decide +kernel
theorem dX9_hearsIn_133 : decode cX9_hearsIn 133 = .ok (.invokevirtual 165, 3) := by decide +kernel
theorem dX9_hearsIn_136 : decode cX9_hearsIn 136 = .ok (.return_, 1) := by decide +kernel
theorem dX9_size_0 : decode cX9_size 0 = .ok (.iload_n 0, 1) := by decide +kernel
theorem dX9_size_1 : decode cX9_size 1 = .ok (.ifCond .ge 8, 3) := by decide +kernel
theorem dX9_size_4 : decode cX9_size 4 = .ok (.iload_n 0, 1) := by decide +kernel
theorem dX9_size_5 : decode cX9_size 5 = .ok (.ineg, 1) := by decide +kernel
theorem dX9_size_6 : decode cX9_size 6 = .ok (.goto 4, 3) := by decide +kernel
theorem dX9_size_9 : decode cX9_size 9 = .ok (.iload_n 0, 1) := by decide +kernel
theorem dX9_size_10 : decode cX9_size 10 = .ok (.ireturn, 1) := by decide +kernel
set_option maxRecDepth 20000 in
theorem ggX9_makeOffer_X9_size : GoodIn wsX9_makeOffer wsX9_size := goodIn_r _ [7] (by decide +kernel) (by decide +kernel)
set_option maxRecDepth 20000 in
theorem gX9_makeOffer_X9_size : GoodIn wsX9_makeOffer (va_wsS RX9 168 yX9_size wsX9_size) := goodIn_app (goodIn_of _ (by decide +kernel)) ggX9_makeOffer_X9_size
set_option maxRecDepth 20000 in
theorem ggX9_makeOffer_X9_put : GoodIn wsX9_makeOffer wsX9_put := goodIn_r _ [11, 12, 13, 14, 15, 16, 17, 18, 19, 20, 21, 22, 23, 24, 25, 26, 27, 28, 29, 30, 31, 32, 33, 34, 35, 36, 37, 38, 39, 40, 41, 42] (by decide +kernel) (by decide +kernel)
set_option maxRecDepth 20000 in
theorem gX9_makeOffer_X9_put : GoodIn wsX9_makeOffer (wsV RX9 114 RX9 yX9_put wsX9_put) := goodIn_app (goodIn_of _ (by decide +kernel)) ggX9_makeOffer_X9_put
theorem dX9_makeOffer_0 : decode cX9_makeOffer 0 = .ok (.iconst 0, 1) := by decide +kernel
theorem dX9_makeOffer_1 : decode cX9_makeOffer 1 = .ok (.istore_n 2, 1) := by decide +kernel
theorem dX9_makeOffer_2 : decode cX9_makeOffer 2 = .ok (.iconst 0, 1) := by decide +kernel
theorem dX9_makeOffer_3 : decode cX9_makeOffer 3 = .ok (.istore_n 3, 1) := by decide +kernel
theorem dX9_makeOffer_4 : decode cX9_makeOffer 4 = .ok (.iload_n 3, 1) := by decide +kernel
theorem dX9_makeOffer_5 : decode cX9_makeOffer 5 = .ok (.iconst 4, 1) := by decide +kernel
theorem dX9_makeOffer_6 : decode cX9_makeOffer 6 = .ok (.if_icmp .ge 39, 3) := by decide +kernel
theorem dX9_makeOffer_9 : decode cX9_makeOffer 9 = .ok (.iload_n 2, 1) := by decide +kernel
theorem dX9_makeOffer_10 : decode cX9_makeOffer 10 = .ok (.bipush 16, 2) := by decide +kernel
theorem dX9_makeOffer_12 : decode cX9_makeOffer 12 = .ok (.aload_n 0, 1) := by decide +kernel
theorem dX9_makeOffer_13 : decode cX9_makeOffer 13 = .ok (.getfield 19, 3) := by decide +kernel
theorem dX9_makeOffer_16 : decode cX9_makeOffer 16 = .ok (.iconst 4, 1) := by decide +kernel
theorem dX9_makeOffer_17 : decode cX9_makeOffer 17 = .ok (.iload_n 1, 1) := by decide +kernel
theorem dX9_makeOffer_18 : decode cX9_makeOffer 18 = .ok (.imul, 1) := by decide +kernel
theorem dX9_makeOffer_19 : decode cX9_makeOffer 19 = .ok (.iload_n 3, 1) := by decide +kernel
theorem dX9_makeOffer_20 : decode cX9_makeOffer 20 = .ok (.iadd, 1) := by decide +kernel
theorem dX9_makeOffer_21 : decode cX9_makeOffer 21 = .ok (.iaload, 1) := by decide +kernel
theorem dX9_makeOffer_22 : decode cX9_makeOffer 22 = .ok (.imul, 1) := by decide +kernel
theorem dX9_makeOffer_23 : decode cX9_makeOffer 23 = .ok (.aload_n 0, 1) := by decide +kernel
theorem dX9_makeOffer_24 : decode cX9_makeOffer 24 = .ok (.getfield 16, 3) := by decide +kernel
theorem dX9_makeOffer_27 : decode cX9_makeOffer 27 = .ok (.iconst 4, 1) := by decide +kernel
theorem dX9_makeOffer_28 : decode cX9_makeOffer 28 = .ok (.iload_n 1, 1) := by decide +kernel
theorem dX9_makeOffer_29 : decode cX9_makeOffer 29 = .ok (.imul, 1) := by decide +kernel
theorem dX9_makeOffer_30 : decode cX9_makeOffer 30 = .ok (.iload_n 3, 1) := by decide +kernel
theorem dX9_makeOffer_31 : decode cX9_makeOffer 31 = .ok (.iadd, 1) := by decide +kernel
theorem dX9_makeOffer_32 : decode cX9_makeOffer 32 = .ok (.iaload, 1) := by decide +kernel
theorem dX9_makeOffer_33 : decode cX9_makeOffer 33 = .ok (.isub, 1) := by decide +kernel
theorem dX9_makeOffer_34 : decode cX9_makeOffer 34 = .ok (.invokestatic 168, 3) := by decide +kernel
theorem dX9_makeOffer_37 : decode cX9_makeOffer 37 = .ok (.iadd, 1) := by decide +kernel
theorem dX9_makeOffer_38 : decode cX9_makeOffer 38 = .ok (.istore_n 2, 1) := by decide +kernel
theorem dX9_makeOffer_39 : decode cX9_makeOffer 39 = .ok (.iinc 3 1, 3) := by decide +kernel
theorem dX9_makeOffer_42 : decode cX9_makeOffer 42 = .ok (.goto (-38), 3) := by decide +kernel
theorem dX9_makeOffer_45 : decode cX9_makeOffer 45 = .ok (.iload_n 2, 1) := by decide +kernel
theorem dX9_makeOffer_46 : decode cX9_makeOffer 46 = .ok (.bipush 16, 2) := by decide +kernel
theorem dX9_makeOffer_48 : decode cX9_makeOffer 48 = .ok (.idiv, 1) := by decide +kernel
theorem dX9_makeOffer_49 : decode cX9_makeOffer 49 = .ok (.istore_n 3, 1) := by decide +kernel
theorem dX9_makeOffer_50 : decode cX9_makeOffer 50 = .ok (.iconst 0, 1) := by decide +kernel
theorem dX9_makeOffer_51 : decode cX9_makeOffer 51 = .ok (.istore 4, 2) := by decide +kernel
theorem dX9_makeOffer_53 : decode cX9_makeOffer 53 = .ok (.iconst 0, 1) := by decide +kernel
theorem dX9_makeOffer_54 : decode cX9_makeOffer 54 = .ok (.istore 5, 2) := by decide +kernel
theorem dX9_makeOffer_56 : decode cX9_makeOffer 56 = .ok (.iload 5, 2) := by decide +kernel
theorem dX9_makeOffer_58 : decode cX9_makeOffer 58 = .ok (.bipush 8, 2) := by decide +kernel
theorem dX9_makeOffer_60 : decode cX9_makeOffer 60 = .ok (.if_icmp .ge 66, 3) := by decide +kernel
theorem dX9_makeOffer_63 : decode cX9_makeOffer 63 = .ok (.aload_n 0, 1) := by decide +kernel
theorem dX9_makeOffer_64 : decode cX9_makeOffer 64 = .ok (.getfield 13, 3) := by decide +kernel
theorem dX9_makeOffer_67 : decode cX9_makeOffer 67 = .ok (.bipush 8, 2) := by decide +kernel
theorem dX9_makeOffer_69 : decode cX9_makeOffer 69 = .ok (.iload_n 1, 1) := by decide +kernel
theorem dX9_makeOffer_70 : decode cX9_makeOffer 70 = .ok (.imul, 1) := by decide +kernel
theorem dX9_makeOffer_71 : decode cX9_makeOffer 71 = .ok (.iload 5, 2) := by decide +kernel
theorem dX9_makeOffer_73 : decode cX9_makeOffer 73 = .ok (.iadd, 1) := by decide +kernel
theorem dX9_makeOffer_74 : decode cX9_makeOffer 74 = .ok (.iaload, 1) := by decide +kernel
theorem dX9_makeOffer_75 : decode cX9_makeOffer 75 = .ok (.iload_n 3, 1) := by decide +kernel
theorem dX9_makeOffer_76 : decode cX9_makeOffer 76 = .ok (.bipush 20, 2) := by decide +kernel
theorem dX9_makeOffer_78 : decode cX9_makeOffer 78 = .ok (.idiv, 1) := by decide +kernel
theorem dX9_makeOffer_79 : decode cX9_makeOffer 79 = .ok (.isub, 1) := by decide +kernel
theorem dX9_makeOffer_80 : decode cX9_makeOffer 80 = .ok (.istore 6, 2) := by decide +kernel
theorem dX9_makeOffer_82 : decode cX9_makeOffer 82 = .ok (.iload 4, 2) := by decide +kernel
theorem dX9_makeOffer_84 : decode cX9_makeOffer 84 = .ok (.iload 6, 2) := by decide +kernel
theorem dX9_makeOffer_86 : decode cX9_makeOffer 86 = .ok (.iconst 4, 1) := by decide +kernel
theorem dX9_makeOffer_87 : decode cX9_makeOffer 87 = .ok (.if_icmp .ge 7, 3) := by decide +kernel
theorem dX9_makeOffer_90 : decode cX9_makeOffer 90 = .ok (.iconst 0, 1) := by decide +kernel
theorem dX9_makeOffer_91 : decode cX9_makeOffer 91 = .ok (.goto 26, 3) := by decide +kernel
theorem dX9_makeOffer_94 : decode cX9_makeOffer 94 = .ok (.iload 6, 2) := by decide +kernel
theorem dX9_makeOffer_96 : decode cX9_makeOffer 96 = .ok (.bipush 8, 2) := by decide +kernel
theorem dX9_makeOffer_98 : decode cX9_makeOffer 98 = .ok (.if_icmp .ge 7, 3) := by decide +kernel
theorem dX9_makeOffer_101 : decode cX9_makeOffer 101 = .ok (.iconst 1, 1) := by decide +kernel
theorem dX9_makeOffer_102 : decode cX9_makeOffer 102 = .ok (.goto 15, 3) := by decide +kernel
theorem dX9_makeOffer_105 : decode cX9_makeOffer 105 = .ok (.iload 6, 2) := by decide +kernel
theorem dX9_makeOffer_107 : decode cX9_makeOffer 107 = .ok (.bipush 12, 2) := by decide +kernel
theorem dX9_makeOffer_109 : decode cX9_makeOffer 109 = .ok (.if_icmp .ge 7, 3) := by decide +kernel
theorem dX9_makeOffer_112 : decode cX9_makeOffer 112 = .ok (.iconst 2, 1) := by decide +kernel
theorem dX9_makeOffer_113 : decode cX9_makeOffer 113 = .ok (.goto 4, 3) := by decide +kernel
theorem dX9_makeOffer_116 : decode cX9_makeOffer 116 = .ok (.iconst 3, 1) := by decide +kernel
theorem dX9_makeOffer_117 : decode cX9_makeOffer 117 = .ok (.iadd, 1) := by decide +kernel
theorem dX9_makeOffer_118 : decode cX9_makeOffer 118 = .ok (.istore 4, 2) := by decide +kernel
theorem dX9_makeOffer_120 : decode cX9_makeOffer 120 = .ok (.iinc 5 1, 3) := by decide +kernel
theorem dX9_makeOffer_123 : decode cX9_makeOffer 123 = .ok (.goto (-67), 3) := by decide +kernel
theorem dX9_makeOffer_126 : decode cX9_makeOffer 126 = .ok (.aload_n 0, 1) := by decide +kernel
theorem dX9_makeOffer_127 : decode cX9_makeOffer 127 = .ok (.iload_n 1, 1) := by decide +kernel
theorem dX9_makeOffer_128 : decode cX9_makeOffer 128 = .ok (.bipush 11, 2) := by decide +kernel
theorem dX9_makeOffer_130 : decode cX9_makeOffer 130 = .ok (.iload_n 3, 1) := by decide +kernel
theorem dX9_makeOffer_131 : decode cX9_makeOffer 131 = .ok (.invokevirtual 114, 3) := by decide +kernel
theorem dX9_makeOffer_134 : decode cX9_makeOffer 134 = .ok (.aload_n 0, 1) := by decide +kernel
theorem dX9_makeOffer_135 : decode cX9_makeOffer 135 = .ok (.iload_n 1, 1) := by decide +kernel
theorem dX9_makeOffer_136 : decode cX9_makeOffer 136 = .ok (.iconst 3, 1) := by decide +kernel
theorem dX9_makeOffer_137 : decode cX9_makeOffer 137 = .ok (.iload 4, 2) := by decide +kernel
theorem dX9_makeOffer_139 : decode cX9_makeOffer 139 = .ok (.invokevirtual 114, 3) := by decide +kernel
theorem dX9_makeOffer_142 : decode cX9_makeOffer 142 = .ok (.return_, 1) := by decide +kernel
theorem dX9_ones_0 : decode cX9_ones 0 = .ok (.iconst 0, 1) := by decide +kernel
theorem dX9_ones_1 : decode cX9_ones 1 = .ok (.istore_n 1, 1) := by decide +kernel
theorem dX9_ones_2 : decode cX9_ones 2 = .ok (.iconst 0, 1) := by decide +kernel
theorem dX9_ones_3 : decode cX9_ones 3 = .ok (.istore_n 2, 1) := by decide +kernel
theorem dX9_ones_4 : decode cX9_ones 4 = .ok (.iload_n 2, 1) := by decide +kernel
theorem dX9_ones_5 : decode cX9_ones 5 = .ok (.bipush 8, 2) := by decide +kernel
theorem dX9_ones_7 : decode cX9_ones 7 = .ok (.if_icmp .ge 17, 3) := by decide +kernel
theorem dX9_ones_10 : decode cX9_ones 10 = .ok (.iload_n 1, 1) := by decide +kernel
theorem dX9_ones_11 : decode cX9_ones 11 = .ok (.iload_n 0, 1) := by decide +kernel
theorem dX9_ones_12 : decode cX9_ones 12 = .ok (.iload_n 2, 1) := by decide +kernel
theorem dX9_ones_13 : decode cX9_ones 13 = .ok (.ishr, 1) := by decide +kernel
theorem dX9_ones_14 : decode cX9_ones 14 = .ok (.iconst 1, 1) := by decide +kernel
theorem dX9_ones_15 : decode cX9_ones 15 = .ok (.iand, 1) := by decide +kernel
theorem dX9_ones_16 : decode cX9_ones 16 = .ok (.iadd, 1) := by decide +kernel
theorem dX9_ones_17 : decode cX9_ones 17 = .ok (.istore_n 1, 1) := by decide +kernel
theorem dX9_ones_18 : decode cX9_ones 18 = .ok (.iinc 2 1, 3) := by decide +kernel
theorem dX9_ones_21 : decode cX9_ones 21 = .ok (.goto (-17), 3) := by decide +kernel
theorem dX9_ones_24 : decode cX9_ones 24 = .ok (.iload_n 1, 1) := by decide +kernel
theorem dX9_ones_25 : decode cX9_ones 25 = .ok (.ireturn, 1) := by decide +kernel
set_option maxRecDepth 20000 in
theorem ggX9_looksInData_X9_of : GoodIn wsX9_looksInData wsX9_of := goodIn_r _ [7, 8, 32, 33, 34, 35, 36, 37, 38, 39, 40, 41, 42, 43, 44, 45, 46, 47, 48, 49, 50, 51, 52, 53, 54, 55, 56, 57, 58, 59, 60, 61] (by decide +kernel) (by decide +kernel)
set_option maxRecDepth 20000 in
theorem gX9_looksInData_X9_of : GoodIn wsX9_looksInData (wsV RX9 106 RX9 yX9_of wsX9_of) := goodIn_app (goodIn_of _ (by decide +kernel)) ggX9_looksInData_X9_of
set_option maxRecDepth 20000 in
theorem ggX9_looksInData_X9_put : GoodIn wsX9_looksInData wsX9_put := goodIn_r _ [12, 8, 32, 33, 34, 35, 36, 37, 38, 39, 40, 41, 42, 43, 44, 45, 46, 47, 48, 49, 50, 51, 52, 53, 54, 55, 56, 57, 58, 59, 60, 61] (by decide +kernel) (by decide +kernel)
set_option maxRecDepth 20000 in
theorem gX9_looksInData_X9_put : GoodIn wsX9_looksInData (wsV RX9 114 RX9 yX9_put wsX9_put) := goodIn_app (goodIn_of _ (by decide +kernel)) ggX9_looksInData_X9_put
set_option maxRecDepth 20000 in
theorem ggX9_looksInData_X9_ones : GoodIn wsX9_looksInData wsX9_ones := goodIn_r _ [15] (by decide +kernel) (by decide +kernel)
set_option maxRecDepth 20000 in
theorem gX9_looksInData_X9_ones : GoodIn wsX9_looksInData (va_wsS RX9 171 yX9_ones wsX9_ones) := goodIn_app (goodIn_of _ (by decide +kernel)) ggX9_looksInData_X9_ones
set_option maxRecDepth 20000 in
theorem ggX9_looksInData_X9_add : GoodIn wsX9_looksInData wsX9_add := goodIn_r _ [19, 8, 32, 33, 34, 35, 36, 37, 38, 39, 40, 41, 42, 43, 44, 45, 46, 47, 48, 49, 50, 51, 52, 53, 54, 55, 56, 57, 58, 59, 60, 61] (by decide +kernel) (by decide +kernel)
set_option maxRecDepth 20000 in
theorem gX9_looksInData_X9_add : GoodIn wsX9_looksInData (wsV RX9 110 RX9 yX9_add wsX9_add) := goodIn_app (goodIn_of _ (by decide +kernel)) ggX9_looksInData_X9_add
set_option maxRecDepth 20000 in
theorem ggX9_looksInData_X9_into : GoodIn wsX9_looksInData wsX9_into := goodIn_r _ [23, 24, 25, 26, 27, 28, 29, 30, 6, 31, 9, 10, 11, 12, 8, 3, 4, 5, 7, 16, 17, 18, 19, 32, 33, 34, 35, 36, 37, 38, 39, 40, 41, 42, 43, 44, 45, 46, 47, 48, 49, 50, 51, 52, 53, 54, 55, 56, 57, 58, 59, 60, 61] (by decide +kernel) (by decide +kernel)
set_option maxRecDepth 20000 in
theorem gX9_looksInData_X9_into : GoodIn wsX9_looksInData (wsV RX9 134 RX9 yX9_into wsX9_into) := goodIn_app (goodIn_of _ (by decide +kernel)) ggX9_looksInData_X9_into
theorem dX9_looksInData_0 : decode cX9_looksInData 0 = .ok (.aload_n 0, 1) := by decide +kernel
theorem dX9_looksInData_1 : decode cX9_looksInData 1 = .ok (.iload_n 1, 1) := by decide +kernel
theorem dX9_looksInData_2 : decode cX9_looksInData 2 = .ok (.bipush 10, 2) := by decide +kernel
theorem dX9_looksInData_4 : decode cX9_looksInData 4 = .ok (.aload_n 0, 1) := by decide +kernel
theorem dX9_looksInData_5 : decode cX9_looksInData 5 = .ok (.iload_n 1, 1) := by decide +kernel
theorem dX9_looksInData_6 : decode cX9_looksInData 6 = .ok (.bipush 8, 2) := by decide +kernel
theorem dX9_looksInData_8 : decode cX9_looksInData 8 = .ok (.invokevirtual 106, 3) := by decide +kernel
theorem dX9_looksInData_11 : decode cX9_looksInData 11 = .ok (.aload_n 0, 1) := by decide +kernel
theorem dX9_looksInData_12 : decode cX9_looksInData 12 = .ok (.iload_n 1, 1) := by decide +kernel
theorem dX9_looksInData_13 : decode cX9_looksInData 13 = .ok (.bipush 7, 2) := by decide +kernel
theorem dX9_looksInData_15 : decode cX9_looksInData 15 = .ok (.invokevirtual 106, 3) := by decide +kernel
theorem dX9_looksInData_18 : decode cX9_looksInData 18 = .ok (.if_icmp .ge 22, 3) := by decide +kernel
theorem dX9_looksInData_21 : decode cX9_looksInData 21 = .ok (.aload_n 0, 1) := by decide +kernel
theorem dX9_looksInData_22 : decode cX9_looksInData 22 = .ok (.getfield 147, 3) := by decide +kernel
theorem dX9_looksInData_25 : decode cX9_looksInData 25 = .ok (.ifCond .ne 15, 3) := by decide +kernel
theorem dX9_looksInData_28 : decode cX9_looksInData 28 = .ok (.aload_n 0, 1) := by decide +kernel
theorem dX9_looksInData_29 : decode cX9_looksInData 29 = .ok (.iload_n 1, 1) := by decide +kernel
theorem dX9_looksInData_30 : decode cX9_looksInData 30 = .ok (.bipush 10, 2) := by decide +kernel
theorem dX9_looksInData_32 : decode cX9_looksInData 32 = .ok (.invokevirtual 106, 3) := by decide +kernel
theorem dX9_looksInData_35 : decode cX9_looksInData 35 = .ok (.iconst 1, 1) := by decide +kernel
theorem dX9_looksInData_36 : decode cX9_looksInData 36 = .ok (.iadd, 1) := by decide +kernel
theorem dX9_looksInData_37 : decode cX9_looksInData 37 = .ok (.goto 4, 3) := by decide +kernel
theorem dX9_looksInData_40 : decode cX9_looksInData 40 = .ok (.iconst 0, 1) := by decide +kernel
theorem dX9_looksInData_41 : decode cX9_looksInData 41 = .ok (.invokevirtual 114, 3) := by decide +kernel
theorem dX9_looksInData_44 : decode cX9_looksInData 44 = .ok (.aload_n 0, 1) := by decide +kernel
theorem dX9_looksInData_45 : decode cX9_looksInData 45 = .ok (.iload_n 1, 1) := by decide +kernel
theorem dX9_looksInData_46 : decode cX9_looksInData 46 = .ok (.bipush 10, 2) := by decide +kernel
theorem dX9_looksInData_48 : decode cX9_looksInData 48 = .ok (.invokevirtual 106, 3) := by decide +kernel
theorem dX9_looksInData_51 : decode cX9_looksInData 51 = .ok (.iconst 2, 1) := by decide +kernel
theorem dX9_looksInData_52 : decode cX9_looksInData 52 = .ok (.aload_n 0, 1) := by decide +kernel
theorem dX9_looksInData_53 : decode cX9_looksInData 53 = .ok (.getfield 34, 3) := by decide +kernel
theorem dX9_looksInData_56 : decode cX9_looksInData 56 = .ok (.imul, 1) := by decide +kernel
theorem dX9_looksInData_57 : decode cX9_looksInData 57 = .ok (.iconst 4, 1) := by decide +kernel
theorem dX9_looksInData_58 : decode cX9_looksInData 58 = .ok (.iadd, 1) := by decide +kernel
theorem dX9_looksInData_59 : decode cX9_looksInData 59 = .ok (.if_icmp .lt 25, 3) := by decide +kernel
theorem dX9_looksInData_62 : decode cX9_looksInData 62 = .ok (.aload_n 0, 1) := by decide +kernel
theorem dX9_looksInData_63 : decode cX9_looksInData 63 = .ok (.iload_n 1, 1) := by decide +kernel
theorem dX9_looksInData_64 : decode cX9_looksInData 64 = .ok (.bipush 10, 2) := by decide +kernel
theorem dX9_looksInData_66 : decode cX9_looksInData 66 = .ok (.iconst 0, 1) := by decide +kernel
theorem dX9_looksInData_67 : decode cX9_looksInData 67 = .ok (.invokevirtual 114, 3) := by decide +kernel
theorem dX9_looksInData_70 : decode cX9_looksInData 70 = .ok (.aload_n 0, 1) := by decide +kernel
theorem dX9_looksInData_71 : decode cX9_looksInData 71 = .ok (.iload_n 1, 1) := by decide +kernel
theorem dX9_looksInData_72 : decode cX9_looksInData 72 = .ok (.bipush 7, 2) := by decide +kernel
theorem dX9_looksInData_74 : decode cX9_looksInData 74 = .ok (.aload_n 0, 1) := by decide +kernel
theorem dX9_looksInData_75 : decode cX9_looksInData 75 = .ok (.iload_n 1, 1) := by decide +kernel
theorem dX9_looksInData_76 : decode cX9_looksInData 76 = .ok (.bipush 8, 2) := by decide +kernel
theorem dX9_looksInData_78 : decode cX9_looksInData 78 = .ok (.invokevirtual 106, 3) := by decide +kernel
theorem dX9_looksInData_81 : decode cX9_looksInData 81 = .ok (.invokevirtual 114, 3) := by decide +kernel
theorem dX9_looksInData_84 : decode cX9_looksInData 84 = .ok (.aload_n 0, 1) := by decide +kernel
theorem dX9_looksInData_85 : decode cX9_looksInData 85 = .ok (.iload_n 1, 1) := by decide +kernel
theorem dX9_looksInData_86 : decode cX9_looksInData 86 = .ok (.bipush 15, 2) := by decide +kernel
theorem dX9_looksInData_88 : decode cX9_looksInData 88 = .ok (.invokevirtual 106, 3) := by decide +kernel
theorem dX9_looksInData_91 : decode cX9_looksInData 91 = .ok (.invokestatic 171, 3) := by decide +kernel
theorem dX9_looksInData_94 : decode cX9_looksInData 94 = .ok (.iconst 3, 1) := by decide +kernel
theorem dX9_looksInData_95 : decode cX9_looksInData 95 = .ok (.if_icmp .lt 52, 3) := by decide +kernel
theorem dX9_looksInData_98 : decode cX9_looksInData 98 = .ok (.aload_n 0, 1) := by decide +kernel
theorem dX9_looksInData_99 : decode cX9_looksInData 99 = .ok (.iload_n 1, 1) := by decide +kernel
theorem dX9_looksInData_100 : decode cX9_looksInData 100 = .ok (.iconst 3, 1) := by decide +kernel
theorem dX9_looksInData_101 : decode cX9_looksInData 101 = .ok (.invokevirtual 106, 3) := by decide +kernel
theorem dX9_looksInData_104 : decode cX9_looksInData 104 = .ok (.iconst 1, 1) := by decide +kernel
theorem dX9_looksInData_105 : decode cX9_looksInData 105 = .ok (.if_icmp .le 42, 3) := by decide +kernel
theorem dX9_looksInData_108 : decode cX9_looksInData 108 = .ok (.aload_n 0, 1) := by decide +kernel
theorem dX9_looksInData_109 : decode cX9_looksInData 109 = .ok (.iload_n 1, 1) := by decide +kernel
theorem dX9_looksInData_110 : decode cX9_looksInData 110 = .ok (.iconst 1, 1) := by decide +kernel
theorem dX9_looksInData_111 : decode cX9_looksInData 111 = .ok (.invokevirtual 106, 3) := by decide +kernel
theorem dX9_looksInData_114 : decode cX9_looksInData 114 = .ok (.bipush 8, 2) := by decide +kernel
theorem dX9_looksInData_116 : decode cX9_looksInData 116 = .ok (.if_icmp .lt 31, 3) := by decide +kernel
theorem dX9_looksInData_119 : decode cX9_looksInData 119 = .ok (.aload_n 0, 1) := by decide +kernel
theorem dX9_looksInData_120 : decode cX9_looksInData 120 = .ok (.iload_n 1, 1) := by decide +kernel
theorem dX9_looksInData_121 : decode cX9_looksInData 121 = .ok (.bipush 13, 2) := by decide +kernel
theorem dX9_looksInData_123 : decode cX9_looksInData 123 = .ok (.iconst 1, 1) := by decide +kernel
theorem dX9_looksInData_124 : decode cX9_looksInData 124 = .ok (.invokevirtual 110, 3) := by decide +kernel
theorem dX9_looksInData_127 : decode cX9_looksInData 127 = .ok (.aload_n 0, 1) := by decide +kernel
theorem dX9_looksInData_128 : decode cX9_looksInData 128 = .ok (.iload_n 1, 1) := by decide +kernel
theorem dX9_looksInData_129 : decode cX9_looksInData 129 = .ok (.iconst 2, 1) := by decide +kernel
theorem dX9_looksInData_130 : decode cX9_looksInData 130 = .ok (.iconst 1, 1) := by decide +kernel
theorem dX9_looksInData_131 : decode cX9_looksInData 131 = .ok (.invokevirtual 110, 3) := by decide +kernel
theorem dX9_looksInData_134 : decode cX9_looksInData 134 = .ok (.aload_n 0, 1) := by decide +kernel
theorem dX9_looksInData_135 : decode cX9_looksInData 135 = .ok (.iload_n 1, 1) := by decide +kernel
theorem dX9_looksInData_136 : decode cX9_looksInData 136 = .ok (.iconst 3, 1) := by decide +kernel
theorem dX9_looksInData_137 : decode cX9_looksInData 137 = .ok (.iconst (-1), 1) := by decide +kernel
theorem dX9_looksInData_138 : decode cX9_looksInData 138 = .ok (.invokevirtual 110, 3) := by decide +kernel
theorem dX9_looksInData_141 : decode cX9_looksInData 141 = .ok (.aload_n 0, 1) := by decide +kernel
theorem dX9_looksInData_142 : decode cX9_looksInData 142 = .ok (.iload_n 1, 1) := by decide +kernel
theorem dX9_looksInData_143 : decode cX9_looksInData 143 = .ok (.iconst 5, 1) := by decide +kernel
theorem dX9_looksInData_144 : decode cX9_looksInData 144 = .ok (.invokevirtual 134, 3) := by decide +kernel
theorem dX9_looksInData_147 : decode cX9_looksInData 147 = .ok (.return_, 1) := by decide +kernel
set_option maxRecDepth 20000 in
theorem ggX9_looksIn_X9_of : GoodIn wsX9_looksIn wsX9_of := goodIn_r _ [6, 7, 44, 45, 46, 47, 48, 49, 50, 51, 52, 53, 54, 55, 56, 57, 58, 59, 60, 61, 62, 63, 64, 65, 66, 67, 68, 69, 70, 71, 72, 73] (by decide +kernel) (by decide +kernel)
set_option maxRecDepth 20000 in
theorem gX9_looksIn_X9_of : GoodIn wsX9_looksIn (wsV RX9 106 RX9 yX9_of wsX9_of) := goodIn_app (goodIn_of _ (by decide +kernel)) ggX9_looksIn_X9_of
set_option maxRecDepth 20000 in
theorem ggX9_looksIn_X9_into : GoodIn wsX9_looksIn wsX9_into := goodIn_r _ [11, 12, 13, 14, 15, 16, 17, 18, 5, 19, 20, 21, 22, 23, 7, 2, 3, 4, 6, 24, 25, 26, 27, 44, 45, 46, 47, 48, 49, 50, 51, 52, 53, 54, 55, 56, 57, 58, 59, 60, 61, 62, 63, 64, 65, 66, 67, 68, 69, 70, 71, 72, 73] (by decide +kernel) (by decide +kernel)
set_option maxRecDepth 20000 in
theorem gX9_looksIn_X9_into : GoodIn wsX9_looksIn (wsV RX9 134 RX9 yX9_into wsX9_into) := goodIn_app (goodIn_of _ (by decide +kernel)) ggX9_looksIn_X9_into
set_option maxRecDepth 20000 in
theorem ggX9_looksIn_X9_put : GoodIn wsX9_looksIn wsX9_put := goodIn_r _ [23, 7, 44, 45, 46, 47, 48, 49, 50, 51, 52, 53, 54, 55, 56, 57, 58, 59, 60, 61, 62, 63, 64, 65, 66, 67, 68, 69, 70, 71, 72, 73] (by decide +kernel) (by decide +kernel)
set_option maxRecDepth 20000 in
theorem gX9_looksIn_X9_put : GoodIn wsX9_looksIn (wsV RX9 114 RX9 yX9_put wsX9_put) := goodIn_app (goodIn_of _ (by decide +kernel)) ggX9_looksIn_X9_put
set_option maxRecDepth 20000 in
theorem ggX9_looksIn_X9_makeOffer : GoodIn wsX9_looksIn wsX9_makeOffer := goodIn_r _ [31, 32, 15, 14, 33, 34, 5, 35, 20, 21, 22, 23, 7, 44, 45, 46, 47, 48, 49, 50, 51, 52, 53, 54, 55, 56, 57, 58, 59, 60, 61, 62, 63, 64, 65, 66, 67, 68, 69, 70, 71, 72, 73] (by decide +kernel) (by decide +kernel)
set_option maxRecDepth 20000 in
theorem gX9_looksIn_X9_makeOffer : GoodIn wsX9_looksIn (wsV RX9 174 RX9 yX9_makeOffer wsX9_makeOffer) := goodIn_app (goodIn_of _ (by decide +kernel)) ggX9_looksIn_X9_makeOffer
set_option maxRecDepth 20000 in
theorem ggX9_looksIn_X9_looksInData : GoodIn wsX9_looksIn wsX9_looksInData := goodIn_r _ [39, 40, 1, 2, 3, 4, 5, 6, 7, 20, 21, 22, 23, 41, 42, 43, 24, 25, 26, 27, 8, 9, 10, 11, 12, 13, 14, 15, 16, 17, 18, 19, 44, 45, 46, 47, 48, 49, 50, 51, 52, 53, 54, 55, 56, 57, 58, 59, 60, 61, 62, 63, 64, 65, 66, 67, 68, 69, 70, 71, 72, 73] (by decide +kernel) (by decide +kernel)
set_option maxRecDepth 20000 in
theorem gX9_looksIn_X9_looksInData : GoodIn wsX9_looksIn (wsV RX9 177 RX9 yX9_looksInData wsX9_looksInData) := goodIn_app (goodIn_of _ (by decide +kernel)) ggX9_looksIn_X9_looksInData
theorem dX9_looksIn_0 : decode cX9_looksIn 0 = .ok (.aload_n 0, 1) := by decide +kernel
theorem dX9_looksIn_1 : decode cX9_looksIn 1 = .ok (.iload_n 1, 1) := by decide +kernel
theorem dX9_looksIn_2 : decode cX9_looksIn 2 = .ok (.iconst 0, 1) := by decide +kernel
theorem dX9_looksIn_3 : decode cX9_looksIn 3 = .ok (.invokevirtual 106, 3) := by decide +kernel
theorem dX9_looksIn_6 : decode cX9_looksIn 6 = .ok (.istore_n 2, 1) := by decide +kernel
theorem dX9_looksIn_7 : decode cX9_looksIn 7 = .ok (.iload_n 2, 1) := by decide +kernel
theorem dX9_looksIn_8 : decode cX9_looksIn 8 = .ok (.iconst 3, 1) := by decide +kernel
theorem dX9_looksIn_9 : decode cX9_looksIn 9 = .ok (.if_icmp .ne 30, 3) := by decide +kernel
theorem dX9_looksIn_12 : decode cX9_looksIn 12 = .ok (.aload_n 0, 1) := by decide +kernel
theorem dX9_looksIn_13 : decode cX9_looksIn 13 = .ok (.iload_n 1, 1) := by decide +kernel
theorem dX9_looksIn_14 : decode cX9_looksIn 14 = .ok (.iconst 1, 1) := by decide +kernel
theorem dX9_looksIn_15 : decode cX9_looksIn 15 = .ok (.invokevirtual 106, 3) := by decide +kernel
theorem dX9_looksIn_18 : decode cX9_looksIn 18 = .ok (.bipush 10, 2) := by decide +kernel
theorem dX9_looksIn_20 : decode cX9_looksIn 20 = .ok (.iconst 2, 1) := by decide +kernel
theorem dX9_looksIn_21 : decode cX9_looksIn 21 = .ok (.aload_n 0, 1) := by decide +kernel
theorem dX9_looksIn_22 : decode cX9_looksIn 22 = .ok (.getfield 34, 3) := by decide +kernel
theorem dX9_looksIn_25 : decode cX9_looksIn 25 = .ok (.imul, 1) := by decide +kernel
theorem dX9_looksIn_26 : decode cX9_looksIn 26 = .ok (.iadd, 1) := by decide +kernel
theorem dX9_looksIn_27 : decode cX9_looksIn 27 = .ok (.if_icmp .lt 12, 3) := by decide +kernel
theorem dX9_looksIn_30 : decode cX9_looksIn 30 = .ok (.aload_n 0, 1) := by decide +kernel
theorem dX9_looksIn_31 : decode cX9_looksIn 31 = .ok (.iload_n 1, 1) := by decide +kernel
theorem dX9_looksIn_32 : decode cX9_looksIn 32 = .ok (.iconst 4, 1) := by decide +kernel
theorem dX9_looksIn_33 : decode cX9_looksIn 33 = .ok (.invokevirtual 134, 3) := by decide +kernel
theorem dX9_looksIn_36 : decode cX9_looksIn 36 = .ok (.goto 51, 3) := by decide +kernel
theorem dX9_looksIn_39 : decode cX9_looksIn 39 = .ok (.iload_n 2, 1) := by decide +kernel
theorem dX9_looksIn_40 : decode cX9_looksIn 40 = .ok (.iconst 4, 1) := by decide +kernel
theorem dX9_looksIn_41 : decode cX9_looksIn 41 = .ok (.if_icmp .ne 35, 3) := by decide +kernel
theorem dX9_looksIn_44 : decode cX9_looksIn 44 = .ok (.aload_n 0, 1) := by decide +kernel
theorem dX9_looksIn_45 : decode cX9_looksIn 45 = .ok (.iload_n 1, 1) := by decide +kernel
theorem dX9_looksIn_46 : decode cX9_looksIn 46 = .ok (.iconst 1, 1) := by decide +kernel
theorem dX9_looksIn_47 : decode cX9_looksIn 47 = .ok (.invokevirtual 106, 3) := by decide +kernel
theorem dX9_looksIn_50 : decode cX9_looksIn 50 = .ok (.bipush 32, 2) := by decide +kernel
theorem dX9_looksIn_52 : decode cX9_looksIn 52 = .ok (.if_icmp .lt 24, 3) := by decide +kernel
theorem dX9_looksIn_55 : decode cX9_looksIn 55 = .ok (.aload_n 0, 1) := by decide +kernel
theorem dX9_looksIn_56 : decode cX9_looksIn 56 = .ok (.iload_n 1, 1) := by decide +kernel
theorem dX9_looksIn_57 : decode cX9_looksIn 57 = .ok (.iconst 5, 1) := by decide +kernel
theorem dX9_looksIn_58 : decode cX9_looksIn 58 = .ok (.invokevirtual 134, 3) := by decide +kernel
theorem dX9_looksIn_61 : decode cX9_looksIn 61 = .ok (.aload_n 0, 1) := by decide +kernel
theorem dX9_looksIn_62 : decode cX9_looksIn 62 = .ok (.iload_n 1, 1) := by decide +kernel
theorem dX9_looksIn_63 : decode cX9_looksIn 63 = .ok (.iconst 2, 1) := by decide +kernel
theorem dX9_looksIn_64 : decode cX9_looksIn 64 = .ok (.iconst 1, 1) := by decide +kernel
theorem dX9_looksIn_65 : decode cX9_looksIn 65 = .ok (.invokevirtual 114, 3) := by decide +kernel
theorem dX9_looksIn_68 : decode cX9_looksIn 68 = .ok (.aload_n 0, 1) := by decide +kernel
theorem dX9_looksIn_69 : decode cX9_looksIn 69 = .ok (.iload_n 1, 1) := by decide +kernel
theorem dX9_looksIn_70 : decode cX9_looksIn 70 = .ok (.invokevirtual 174, 3) := by decide +kernel
theorem dX9_looksIn_73 : decode cX9_looksIn 73 = .ok (.goto 14, 3) := by decide +kernel
theorem dX9_looksIn_76 : decode cX9_looksIn 76 = .ok (.iload_n 2, 1) := by decide +kernel
theorem dX9_looksIn_77 : decode cX9_looksIn 77 = .ok (.bipush 7, 2) := by decide +kernel
theorem dX9_looksIn_79 : decode cX9_looksIn 79 = .ok (.if_icmp .ne 8, 3) := by decide +kernel
theorem dX9_looksIn_82 : decode cX9_looksIn 82 = .ok (.aload_n 0, 1) := by decide +kernel
theorem dX9_looksIn_83 : decode cX9_looksIn 83 = .ok (.iload_n 1, 1) := by decide +kernel
theorem dX9_looksIn_84 : decode cX9_looksIn 84 = .ok (.invokevirtual 177, 3) := by decide +kernel
theorem dX9_looksIn_87 : decode cX9_looksIn 87 = .ok (.return_, 1) := by decide +kernel
set_option maxRecDepth 20000 in
theorem ggX9_send_X9_slot : GoodIn wsX9_send wsX9_slot := goodIn_r _ [10] (by decide +kernel) (by decide +kernel)
set_option maxRecDepth 20000 in
theorem gX9_send_X9_slot : GoodIn wsX9_send (wsV RX9 124 RX9 yX9_slot wsX9_slot) := goodIn_app (goodIn_of _ (by decide +kernel)) ggX9_send_X9_slot
theorem dX9_send_0 : decode cX9_send 0 = .ok (.aload_n 0, 1) := by decide +kernel
theorem dX9_send_1 : decode cX9_send 1 = .ok (.aload_n 0, 1) := by decide +kernel
theorem dX9_send_2 : decode cX9_send 2 = .ok (.iload_n 1, 1) := by decide +kernel
theorem dX9_send_3 : decode cX9_send 3 = .ok (.aload_n 0, 1) := by decide +kernel
theorem dX9_send_4 : decode cX9_send 4 = .ok (.getfield 121, 3) := by decide +kernel
theorem dX9_send_7 : decode cX9_send 7 = .ok (.aload_n 0, 1) := by decide +kernel
theorem dX9_send_8 : decode cX9_send 8 = .ok (.getfield 34, 3) := by decide +kernel
theorem dX9_send_11 : decode cX9_send 11 = .ok (.iadd, 1) := by decide +kernel
theorem dX9_send_12 : decode cX9_send 12 = .ok (.invokevirtual 124, 3) := by decide +kernel
theorem dX9_send_15 : decode cX9_send 15 = .ok (.putfield 180, 3) := by decide +kernel
theorem dX9_send_18 : decode cX9_send 18 = .ok (.aload_n 0, 1) := by decide +kernel
theorem dX9_send_19 : decode cX9_send 19 = .ok (.getfield 41, 3) := by decide +kernel
theorem dX9_send_22 : decode cX9_send 22 = .ok (.aload_n 0, 1) := by decide +kernel
theorem dX9_send_23 : decode cX9_send 23 = .ok (.getfield 180, 3) := by decide +kernel
theorem dX9_send_26 : decode cX9_send 26 = .ok (.iconst 1, 1) := by decide +kernel
theorem dX9_send_27 : decode cX9_send 27 = .ok (.iastore, 1) := by decide +kernel
theorem dX9_send_28 : decode cX9_send 28 = .ok (.aload_n 0, 1) := by decide +kernel
theorem dX9_send_29 : decode cX9_send 29 = .ok (.getfield 41, 3) := by decide +kernel
theorem dX9_send_32 : decode cX9_send 32 = .ok (.aload_n 0, 1) := by decide +kernel
theorem dX9_send_33 : decode cX9_send 33 = .ok (.getfield 180, 3) := by decide +kernel
theorem dX9_send_36 : decode cX9_send 36 = .ok (.iconst 1, 1) := by decide +kernel
theorem dX9_send_37 : decode cX9_send 37 = .ok (.iadd, 1) := by decide +kernel
theorem dX9_send_38 : decode cX9_send 38 = .ok (.iload_n 2, 1) := by decide +kernel
theorem dX9_send_39 : decode cX9_send 39 = .ok (.iastore, 1) := by decide +kernel
theorem dX9_send_40 : decode cX9_send 40 = .ok (.aload_n 0, 1) := by decide +kernel
theorem dX9_send_41 : decode cX9_send 41 = .ok (.getfield 41, 3) := by decide +kernel
theorem dX9_send_44 : decode cX9_send 44 = .ok (.aload_n 0, 1) := by decide +kernel
theorem dX9_send_45 : decode cX9_send 45 = .ok (.getfield 180, 3) := by decide +kernel
theorem dX9_send_48 : decode cX9_send 48 = .ok (.iconst 2, 1) := by decide +kernel
theorem dX9_send_49 : decode cX9_send 49 = .ok (.iadd, 1) := by decide +kernel
theorem dX9_send_50 : decode cX9_send 50 = .ok (.iload_n 3, 1) := by decide +kernel
theorem dX9_send_51 : decode cX9_send 51 = .ok (.iastore, 1) := by decide +kernel
theorem dX9_send_52 : decode cX9_send 52 = .ok (.aload_n 0, 1) := by decide +kernel
theorem dX9_send_53 : decode cX9_send 53 = .ok (.getfield 41, 3) := by decide +kernel
theorem dX9_send_56 : decode cX9_send 56 = .ok (.aload_n 0, 1) := by decide +kernel
theorem dX9_send_57 : decode cX9_send 57 = .ok (.getfield 180, 3) := by decide +kernel
theorem dX9_send_60 : decode cX9_send 60 = .ok (.iconst 3, 1) := by decide +kernel
theorem dX9_send_61 : decode cX9_send 61 = .ok (.iadd, 1) := by decide +kernel
theorem dX9_send_62 : decode cX9_send 62 = .ok (.iload 4, 2) := by decide +kernel
theorem dX9_send_64 : decode cX9_send 64 = .ok (.iastore, 1) := by decide +kernel
theorem dX9_send_65 : decode cX9_send 65 = .ok (.aload_n 0, 1) := by decide +kernel
theorem dX9_send_66 : decode cX9_send 66 = .ok (.getfield 41, 3) := by decide +kernel
theorem dX9_send_69 : decode cX9_send 69 = .ok (.aload_n 0, 1) := by decide +kernel
theorem dX9_send_70 : decode cX9_send 70 = .ok (.getfield 180, 3) := by decide +kernel
theorem dX9_send_73 : decode cX9_send 73 = .ok (.iconst 4, 1) := by decide +kernel
theorem dX9_send_74 : decode cX9_send 74 = .ok (.iadd, 1) := by decide +kernel
theorem dX9_send_75 : decode cX9_send 75 = .ok (.iload 5, 2) := by decide +kernel
theorem dX9_send_77 : decode cX9_send 77 = .ok (.iastore, 1) := by decide +kernel
theorem dX9_send_78 : decode cX9_send 78 = .ok (.aload_n 0, 1) := by decide +kernel
theorem dX9_send_79 : decode cX9_send 79 = .ok (.getfield 44, 3) := by decide +kernel
theorem dX9_send_82 : decode cX9_send 82 = .ok (.aload_n 0, 1) := by decide +kernel
theorem dX9_send_83 : decode cX9_send 83 = .ok (.getfield 180, 3) := by decide +kernel
theorem dX9_send_86 : decode cX9_send 86 = .ok (.bipush 8, 2) := by decide +kernel
theorem dX9_send_88 : decode cX9_send 88 = .ok (.idiv, 1) := by decide +kernel
theorem dX9_send_89 : decode cX9_send 89 = .ok (.iload 6, 2) := by decide +kernel
theorem dX9_send_91 : decode cX9_send 91 = .ok (.iastore, 1) := by decide +kernel
theorem dX9_send_92 : decode cX9_send 92 = .ok (.return_, 1) := by decide +kernel
theorem dX9_signOf_0 : decode cX9_signOf 0 = .ok (.iload_n 0, 1) := by decide +kernel
theorem dX9_signOf_1 : decode cX9_signOf 1 = .ok (.ifCond .ge 7, 3) := by decide +kernel
theorem dX9_signOf_4 : decode cX9_signOf 4 = .ok (.iconst 0, 1) := by decide +kernel
theorem dX9_signOf_5 : decode cX9_signOf 5 = .ok (.goto 20, 3) := by decide +kernel
theorem dX9_signOf_8 : decode cX9_signOf 8 = .ok (.iload_n 0, 1) := by decide +kernel
theorem dX9_signOf_9 : decode cX9_signOf 9 = .ok (.iconst 3, 1) := by decide +kernel
theorem dX9_signOf_10 : decode cX9_signOf 10 = .ok (.irem, 1) := by decide +kernel
theorem dX9_signOf_11 : decode cX9_signOf 11 = .ok (.ifCond .eq 9, 3) := by decide +kernel
theorem dX9_signOf_14 : decode cX9_signOf 14 = .ok (.iload_n 0, 1) := by decide +kernel
theorem dX9_signOf_15 : decode cX9_signOf 15 = .ok (.iconst 5, 1) := by decide +kernel
theorem dX9_signOf_16 : decode cX9_signOf 16 = .ok (.irem, 1) := by decide +kernel
theorem dX9_signOf_17 : decode cX9_signOf 17 = .ok (.ifCond .ne 7, 3) := by decide +kernel
theorem dX9_signOf_20 : decode cX9_signOf 20 = .ok (.iconst 1, 1) := by decide +kernel
theorem dX9_signOf_21 : decode cX9_signOf 21 = .ok (.goto 4, 3) := by decide +kernel
theorem dX9_signOf_24 : decode cX9_signOf 24 = .ok (.iconst (-1), 1) := by decide +kernel
theorem dX9_signOf_25 : decode cX9_signOf 25 = .ok (.ireturn, 1) := by decide +kernel
set_option maxRecDepth 20000 in
theorem ggX9_trains_X9_of : GoodIn wsX9_trains wsX9_of := goodIn_r _ [7, 8, 12, 13, 14, 15, 16, 17, 18, 19, 20, 21, 22, 23, 24, 25, 26, 27, 28, 29, 30, 31, 32, 33, 34, 35, 36, 37, 38, 39, 40, 41] (by decide +kernel) (by decide +kernel)
set_option maxRecDepth 20000 in
theorem gX9_trains_X9_of : GoodIn wsX9_trains (wsV RX9 106 RX9 yX9_of wsX9_of) := goodIn_app (goodIn_of _ (by decide +kernel)) ggX9_trains_X9_of
set_option maxRecDepth 20000 in
theorem ggX9_trains_X9_signOf : GoodIn wsX9_trains wsX9_signOf := goodIn_r _ [11] (by decide +kernel) (by decide +kernel)
set_option maxRecDepth 20000 in
theorem gX9_trains_X9_signOf : GoodIn wsX9_trains (va_wsS RX9 183 yX9_signOf wsX9_signOf) := goodIn_app (goodIn_of _ (by decide +kernel)) ggX9_trains_X9_signOf
theorem dX9_trains_0 : decode cX9_trains 0 = .ok (.aload_n 0, 1) := by decide +kernel
theorem dX9_trains_1 : decode cX9_trains 1 = .ok (.iload_n 1, 1) := by decide +kernel
theorem dX9_trains_2 : decode cX9_trains 2 = .ok (.iconst 1, 1) := by decide +kernel
theorem dX9_trains_3 : decode cX9_trains 3 = .ok (.invokevirtual 106, 3) := by decide +kernel
theorem dX9_trains_6 : decode cX9_trains 6 = .ok (.istore_n 2, 1) := by decide +kernel
theorem dX9_trains_7 : decode cX9_trains 7 = .ok (.iconst 0, 1) := by decide +kernel
theorem dX9_trains_8 : decode cX9_trains 8 = .ok (.istore_n 3, 1) := by decide +kernel
theorem dX9_trains_9 : decode cX9_trains 9 = .ok (.iconst 0, 1) := by decide +kernel
theorem dX9_trains_10 : decode cX9_trains 10 = .ok (.istore 4, 2) := by decide +kernel
theorem dX9_trains_12 : decode cX9_trains 12 = .ok (.iload 4, 2) := by decide +kernel
theorem dX9_trains_14 : decode cX9_trains 14 = .ok (.iconst 4, 1) := by decide +kernel
theorem dX9_trains_15 : decode cX9_trains 15 = .ok (.if_icmp .ge 46, 3) := by decide +kernel
theorem dX9_trains_18 : decode cX9_trains 18 = .ok (.iload_n 3, 1) := by decide +kernel
theorem dX9_trains_19 : decode cX9_trains 19 = .ok (.bipush 16, 2) := by decide +kernel
theorem dX9_trains_21 : decode cX9_trains 21 = .ok (.aload_n 0, 1) := by decide +kernel
theorem dX9_trains_22 : decode cX9_trains 22 = .ok (.getfield 19, 3) := by decide +kernel
theorem dX9_trains_25 : decode cX9_trains 25 = .ok (.iconst 4, 1) := by decide +kernel
theorem dX9_trains_26 : decode cX9_trains 26 = .ok (.iload_n 1, 1) := by decide +kernel
theorem dX9_trains_27 : decode cX9_trains 27 = .ok (.imul, 1) := by decide +kernel
theorem dX9_trains_28 : decode cX9_trains 28 = .ok (.iload 4, 2) := by decide +kernel
theorem dX9_trains_30 : decode cX9_trains 30 = .ok (.iadd, 1) := by decide +kernel
theorem dX9_trains_31 : decode cX9_trains 31 = .ok (.iaload, 1) := by decide +kernel
theorem dX9_trains_32 : decode cX9_trains 32 = .ok (.imul, 1) := by decide +kernel
theorem dX9_trains_33 : decode cX9_trains 33 = .ok (.aload_n 0, 1) := by decide +kernel
theorem dX9_trains_34 : decode cX9_trains 34 = .ok (.getfield 16, 3) := by decide +kernel
theorem dX9_trains_37 : decode cX9_trains 37 = .ok (.iconst 4, 1) := by decide +kernel
theorem dX9_trains_38 : decode cX9_trains 38 = .ok (.iload_n 1, 1) := by decide +kernel
theorem dX9_trains_39 : decode cX9_trains 39 = .ok (.imul, 1) := by decide +kernel
theorem dX9_trains_40 : decode cX9_trains 40 = .ok (.iload 4, 2) := by decide +kernel
theorem dX9_trains_42 : decode cX9_trains 42 = .ok (.iadd, 1) := by decide +kernel
theorem dX9_trains_43 : decode cX9_trains 43 = .ok (.iaload, 1) := by decide +kernel
theorem dX9_trains_44 : decode cX9_trains 44 = .ok (.isub, 1) := by decide +kernel
theorem dX9_trains_45 : decode cX9_trains 45 = .ok (.iload_n 2, 1) := by decide +kernel
theorem dX9_trains_46 : decode cX9_trains 46 = .ok (.iload 4, 2) := by decide +kernel
theorem dX9_trains_48 : decode cX9_trains 48 = .ok (.isub, 1) := by decide +kernel
theorem dX9_trains_49 : decode cX9_trains 49 = .ok (.invokestatic 183, 3) := by decide +kernel
theorem dX9_trains_52 : decode cX9_trains 52 = .ok (.imul, 1) := by decide +kernel
theorem dX9_trains_53 : decode cX9_trains 53 = .ok (.iadd, 1) := by decide +kernel
theorem dX9_trains_54 : decode cX9_trains 54 = .ok (.istore_n 3, 1) := by decide +kernel
theorem dX9_trains_55 : decode cX9_trains 55 = .ok (.iinc 4 1, 3) := by decide +kernel
theorem dX9_trains_58 : decode cX9_trains 58 = .ok (.goto (-46), 3) := by decide +kernel
theorem dX9_trains_61 : decode cX9_trains 61 = .ok (.iconst 0, 1) := by decide +kernel
theorem dX9_trains_62 : decode cX9_trains 62 = .ok (.istore 4, 2) := by decide +kernel
theorem dX9_trains_64 : decode cX9_trains 64 = .ok (.iload 4, 2) := by decide +kernel
theorem dX9_trains_66 : decode cX9_trains 66 = .ok (.iconst 4, 1) := by decide +kernel
theorem dX9_trains_67 : decode cX9_trains 67 = .ok (.if_icmp .ge 35, 3) := by decide +kernel
theorem dX9_trains_70 : decode cX9_trains 70 = .ok (.aload_n 0, 1) := by decide +kernel
theorem dX9_trains_71 : decode cX9_trains 71 = .ok (.getfield 16, 3) := by decide +kernel
theorem dX9_trains_74 : decode cX9_trains 74 = .ok (.iconst 4, 1) := by decide +kernel
theorem dX9_trains_75 : decode cX9_trains 75 = .ok (.iload_n 1, 1) := by decide +kernel
theorem dX9_trains_76 : decode cX9_trains 76 = .ok (.imul, 1) := by decide +kernel
theorem dX9_trains_77 : decode cX9_trains 77 = .ok (.iload 4, 2) := by decide +kernel
theorem dX9_trains_79 : decode cX9_trains 79 = .ok (.iadd, 1) := by decide +kernel
theorem dX9_trains_80 : decode cX9_trains 80 = .ok (.dup2, 1) := by decide +kernel
theorem dX9_trains_81 : decode cX9_trains 81 = .ok (.iaload, 1) := by decide +kernel
theorem dX9_trains_82 : decode cX9_trains 82 = .ok (.iload_n 3, 1) := by decide +kernel
theorem dX9_trains_83 : decode cX9_trains 83 = .ok (.iload_n 2, 1) := by decide +kernel
theorem dX9_trains_84 : decode cX9_trains 84 = .ok (.iload 4, 2) := by decide +kernel
theorem dX9_trains_86 : decode cX9_trains 86 = .ok (.isub, 1) := by decide +kernel
theorem dX9_trains_87 : decode cX9_trains 87 = .ok (.invokestatic 183, 3) := by decide +kernel
theorem dX9_trains_90 : decode cX9_trains 90 = .ok (.imul, 1) := by decide +kernel
theorem dX9_trains_91 : decode cX9_trains 91 = .ok (.bipush 8, 2) := by decide +kernel
theorem dX9_trains_93 : decode cX9_trains 93 = .ok (.idiv, 1) := by decide +kernel
theorem dX9_trains_94 : decode cX9_trains 94 = .ok (.iadd, 1) := by decide +kernel
theorem dX9_trains_95 : decode cX9_trains 95 = .ok (.iastore, 1) := by decide +kernel
theorem dX9_trains_96 : decode cX9_trains 96 = .ok (.iinc 4 1, 3) := by decide +kernel
theorem dX9_trains_99 : decode cX9_trains 99 = .ok (.goto (-35), 3) := by decide +kernel
theorem dX9_trains_102 : decode cX9_trains 102 = .ok (.return_, 1) := by decide +kernel
theorem dX9_lesser_0 : decode cX9_lesser 0 = .ok (.iload_n 0, 1) := by decide +kernel
theorem dX9_lesser_1 : decode cX9_lesser 1 = .ok (.iload_n 1, 1) := by decide +kernel
theorem dX9_lesser_2 : decode cX9_lesser 2 = .ok (.if_icmp .ge 7, 3) := by decide +kernel
theorem dX9_lesser_5 : decode cX9_lesser 5 = .ok (.iload_n 0, 1) := by decide +kernel
theorem dX9_lesser_6 : decode cX9_lesser 6 = .ok (.goto 4, 3) := by decide +kernel
theorem dX9_lesser_9 : decode cX9_lesser 9 = .ok (.iload_n 1, 1) := by decide +kernel
theorem dX9_lesser_10 : decode cX9_lesser 10 = .ok (.ireturn, 1) := by decide +kernel
set_option maxRecDepth 20000 in
theorem ggX9_sendsFrame_X9_of : GoodIn wsX9_sendsFrame wsX9_of := goodIn_r _ [9, 10, 33, 34, 35, 36, 37, 38, 39, 40, 41, 42, 43, 44, 45, 46, 47, 48, 49, 50, 51, 52, 53, 54, 55, 56, 57, 58, 59, 60, 61, 62] (by decide +kernel) (by decide +kernel)
set_option maxRecDepth 20000 in
theorem gX9_sendsFrame_X9_of : GoodIn wsX9_sendsFrame (wsV RX9 106 RX9 yX9_of wsX9_of) := goodIn_app (goodIn_of _ (by decide +kernel)) ggX9_sendsFrame_X9_of
set_option maxRecDepth 20000 in
theorem ggX9_sendsFrame_X9_lesser : GoodIn wsX9_sendsFrame wsX9_lesser := goodIn_r _ [13] (by decide +kernel) (by decide +kernel)
set_option maxRecDepth 20000 in
theorem gX9_sendsFrame_X9_lesser : GoodIn wsX9_sendsFrame (va_wsS RX9 186 yX9_lesser wsX9_lesser) := goodIn_app (goodIn_of _ (by decide +kernel)) ggX9_sendsFrame_X9_lesser
set_option maxRecDepth 20000 in
theorem ggX9_sendsFrame_X9_put : GoodIn wsX9_sendsFrame wsX9_put := goodIn_r _ [17, 10, 33, 34, 35, 36, 37, 38, 39, 40, 41, 42, 43, 44, 45, 46, 47, 48, 49, 50, 51, 52, 53, 54, 55, 56, 57, 58, 59, 60, 61, 62] (by decide +kernel) (by decide +kernel)
set_option maxRecDepth 20000 in
theorem gX9_sendsFrame_X9_put : GoodIn wsX9_sendsFrame (wsV RX9 114 RX9 yX9_put wsX9_put) := goodIn_app (goodIn_of _ (by decide +kernel)) ggX9_sendsFrame_X9_put
set_option maxRecDepth 20000 in
theorem ggX9_sendsFrame_X9_send : GoodIn wsX9_sendsFrame wsX9_send := goodIn_r _ [21, 22, 23, 2, 1, 24, 25, 26, 27, 8, 28, 33, 34, 35, 36, 37, 38, 39, 40, 41, 42, 43, 44, 45, 46, 47, 48, 49, 50, 51, 52, 53, 54, 55, 56, 57, 58, 59, 60, 61, 62] (by decide +kernel) (by decide +kernel)
set_option maxRecDepth 20000 in
theorem gX9_sendsFrame_X9_send : GoodIn wsX9_sendsFrame (wsV RX9 189 RX9 yX9_send wsX9_send) := goodIn_app (goodIn_of _ (by decide +kernel)) ggX9_sendsFrame_X9_send
set_option maxRecDepth 20000 in
theorem ggX9_sendsFrame_X9_add : GoodIn wsX9_sendsFrame wsX9_add := goodIn_r _ [32, 10, 33, 34, 35, 36, 37, 38, 39, 40, 41, 42, 43, 44, 45, 46, 47, 48, 49, 50, 51, 52, 53, 54, 55, 56, 57, 58, 59, 60, 61, 62] (by decide +kernel) (by decide +kernel)
set_option maxRecDepth 20000 in
theorem gX9_sendsFrame_X9_add : GoodIn wsX9_sendsFrame (wsV RX9 110 RX9 yX9_add wsX9_add) := goodIn_app (goodIn_of _ (by decide +kernel)) ggX9_sendsFrame_X9_add
theorem dX9_sendsFrame_0 : decode cX9_sendsFrame 0 = .ok (.aload_n 0, 1) := by decide +kernel
theorem dX9_sendsFrame_1 : decode cX9_sendsFrame 1 = .ok (.iload_n 1, 1) := by decide +kernel
theorem dX9_sendsFrame_2 : decode cX9_sendsFrame 2 = .ok (.iconst 5, 1) := by decide +kernel
theorem dX9_sendsFrame_3 : decode cX9_sendsFrame 3 = .ok (.bipush 24, 2) := by decide +kernel
theorem dX9_sendsFrame_5 : decode cX9_sendsFrame 5 = .ok (.aload_n 0, 1) := by decide +kernel
theorem dX9_sendsFrame_6 : decode cX9_sendsFrame 6 = .ok (.iload_n 1, 1) := by decide +kernel
theorem dX9_sendsFrame_7 : decode cX9_sendsFrame 7 = .ok (.iconst 5, 1) := by decide +kernel
theorem dX9_sendsFrame_8 : decode cX9_sendsFrame 8 = .ok (.invokevirtual 106, 3) := by decide +kernel
theorem dX9_sendsFrame_11 : decode cX9_sendsFrame 11 = .ok (.aload_n 0, 1) := by decide +kernel
theorem dX9_sendsFrame_12 : decode cX9_sendsFrame 12 = .ok (.iload_n 1, 1) := by decide +kernel
theorem dX9_sendsFrame_13 : decode cX9_sendsFrame 13 = .ok (.iconst 4, 1) := by decide +kernel
theorem dX9_sendsFrame_14 : decode cX9_sendsFrame 14 = .ok (.invokevirtual 106, 3) := by decide +kernel
theorem dX9_sendsFrame_17 : decode cX9_sendsFrame 17 = .ok (.iadd, 1) := by decide +kernel
theorem dX9_sendsFrame_18 : decode cX9_sendsFrame 18 = .ok (.invokestatic 186, 3) := by decide +kernel
theorem dX9_sendsFrame_21 : decode cX9_sendsFrame 21 = .ok (.invokevirtual 114, 3) := by decide +kernel
theorem dX9_sendsFrame_24 : decode cX9_sendsFrame 24 = .ok (.aload_n 0, 1) := by decide +kernel
theorem dX9_sendsFrame_25 : decode cX9_sendsFrame 25 = .ok (.iload_n 1, 1) := by decide +kernel
theorem dX9_sendsFrame_26 : decode cX9_sendsFrame 26 = .ok (.bipush 7, 2) := by decide +kernel
theorem dX9_sendsFrame_28 : decode cX9_sendsFrame 28 = .ok (.invokevirtual 106, 3) := by decide +kernel
theorem dX9_sendsFrame_31 : decode cX9_sendsFrame 31 = .ok (.istore_n 2, 1) := by decide +kernel
theorem dX9_sendsFrame_32 : decode cX9_sendsFrame 32 = .ok (.aload_n 0, 1) := by decide +kernel
theorem dX9_sendsFrame_33 : decode cX9_sendsFrame 33 = .ok (.iload_n 1, 1) := by decide +kernel
theorem dX9_sendsFrame_34 : decode cX9_sendsFrame 34 = .ok (.iconst 5, 1) := by decide +kernel
theorem dX9_sendsFrame_35 : decode cX9_sendsFrame 35 = .ok (.invokevirtual 106, 3) := by decide +kernel
theorem dX9_sendsFrame_38 : decode cX9_sendsFrame 38 = .ok (.bipush 8, 2) := by decide +kernel
theorem dX9_sendsFrame_40 : decode cX9_sendsFrame 40 = .ok (.idiv, 1) := by decide +kernel
theorem dX9_sendsFrame_41 : decode cX9_sendsFrame 41 = .ok (.aload_n 0, 1) := by decide +kernel
theorem dX9_sendsFrame_42 : decode cX9_sendsFrame 42 = .ok (.iload_n 1, 1) := by decide +kernel
theorem dX9_sendsFrame_43 : decode cX9_sendsFrame 43 = .ok (.bipush 6, 2) := by decide +kernel
theorem dX9_sendsFrame_45 : decode cX9_sendsFrame 45 = .ok (.invokevirtual 106, 3) := by decide +kernel
theorem dX9_sendsFrame_48 : decode cX9_sendsFrame 48 = .ok (.iload_n 2, 1) := by decide +kernel
theorem dX9_sendsFrame_49 : decode cX9_sendsFrame 49 = .ok (.isub, 1) := by decide +kernel
theorem dX9_sendsFrame_50 : decode cX9_sendsFrame 50 = .ok (.aload_n 0, 1) := by decide +kernel
theorem dX9_sendsFrame_51 : decode cX9_sendsFrame 51 = .ok (.iload_n 1, 1) := by decide +kernel
theorem dX9_sendsFrame_52 : decode cX9_sendsFrame 52 = .ok (.bipush 8, 2) := by decide +kernel
theorem dX9_sendsFrame_54 : decode cX9_sendsFrame 54 = .ok (.invokevirtual 106, 3) := by decide +kernel
theorem dX9_sendsFrame_57 : decode cX9_sendsFrame 57 = .ok (.bipush 64, 2) := by decide +kernel
theorem dX9_sendsFrame_59 : decode cX9_sendsFrame 59 = .ok (.iadd, 1) := by decide +kernel
theorem dX9_sendsFrame_60 : decode cX9_sendsFrame 60 = .ok (.iload_n 2, 1) := by decide +kernel
theorem dX9_sendsFrame_61 : decode cX9_sendsFrame 61 = .ok (.isub, 1) := by decide +kernel
theorem dX9_sendsFrame_62 : decode cX9_sendsFrame 62 = .ok (.invokestatic 186, 3) := by decide +kernel
theorem dX9_sendsFrame_65 : decode cX9_sendsFrame 65 = .ok (.invokestatic 186, 3) := by decide +kernel
theorem dX9_sendsFrame_68 : decode cX9_sendsFrame 68 = .ok (.istore_n 3, 1) := by decide +kernel
theorem dX9_sendsFrame_69 : decode cX9_sendsFrame 69 = .ok (.aload_n 0, 1) := by decide +kernel
theorem dX9_sendsFrame_70 : decode cX9_sendsFrame 70 = .ok (.iload_n 1, 1) := by decide +kernel
theorem dX9_sendsFrame_71 : decode cX9_sendsFrame 71 = .ok (.bipush 7, 2) := by decide +kernel
theorem dX9_sendsFrame_73 : decode cX9_sendsFrame 73 = .ok (.aload_n 0, 1) := by decide +kernel
theorem dX9_sendsFrame_74 : decode cX9_sendsFrame 74 = .ok (.iload_n 1, 1) := by decide +kernel
theorem dX9_sendsFrame_75 : decode cX9_sendsFrame 75 = .ok (.iconst 2, 1) := by decide +kernel
theorem dX9_sendsFrame_76 : decode cX9_sendsFrame 76 = .ok (.invokevirtual 106, 3) := by decide +kernel
theorem dX9_sendsFrame_79 : decode cX9_sendsFrame 79 = .ok (.iload_n 2, 1) := by decide +kernel
theorem dX9_sendsFrame_80 : decode cX9_sendsFrame 80 = .ok (.iload_n 3, 1) := by decide +kernel
theorem dX9_sendsFrame_81 : decode cX9_sendsFrame 81 = .ok (.aload_n 0, 1) := by decide +kernel
theorem dX9_sendsFrame_82 : decode cX9_sendsFrame 82 = .ok (.iload_n 1, 1) := by decide +kernel
theorem dX9_sendsFrame_83 : decode cX9_sendsFrame 83 = .ok (.bipush 9, 2) := by decide +kernel
theorem dX9_sendsFrame_85 : decode cX9_sendsFrame 85 = .ok (.invokevirtual 106, 3) := by decide +kernel
theorem dX9_sendsFrame_88 : decode cX9_sendsFrame 88 = .ok (.invokevirtual 189, 3) := by decide +kernel
theorem dX9_sendsFrame_91 : decode cX9_sendsFrame 91 = .ok (.iconst 0, 1) := by decide +kernel
theorem dX9_sendsFrame_92 : decode cX9_sendsFrame 92 = .ok (.istore 4, 2) := by decide +kernel
theorem dX9_sendsFrame_94 : decode cX9_sendsFrame 94 = .ok (.iload 4, 2) := by decide +kernel
theorem dX9_sendsFrame_96 : decode cX9_sendsFrame 96 = .ok (.iload_n 3, 1) := by decide +kernel
theorem dX9_sendsFrame_97 : decode cX9_sendsFrame 97 = .ok (.if_icmp .ge 66, 3) := by decide +kernel
theorem dX9_sendsFrame_100 : decode cX9_sendsFrame 100 = .ok (.aload_n 0, 1) := by decide +kernel
theorem dX9_sendsFrame_101 : decode cX9_sendsFrame 101 = .ok (.getfield 41, 3) := by decide +kernel
theorem dX9_sendsFrame_104 : decode cX9_sendsFrame 104 = .ok (.aload_n 0, 1) := by decide +kernel
theorem dX9_sendsFrame_105 : decode cX9_sendsFrame 105 = .ok (.getfield 180, 3) := by decide +kernel
theorem dX9_sendsFrame_108 : decode cX9_sendsFrame 108 = .ok (.iconst 5, 1) := by decide +kernel
theorem dX9_sendsFrame_109 : decode cX9_sendsFrame 109 = .ok (.iadd, 1) := by decide +kernel
theorem dX9_sendsFrame_110 : decode cX9_sendsFrame 110 = .ok (.iload 4, 2) := by decide +kernel
theorem dX9_sendsFrame_112 : decode cX9_sendsFrame 112 = .ok (.iadd, 1) := by decide +kernel
theorem dX9_sendsFrame_113 : decode cX9_sendsFrame 113 = .ok (.aload_n 0, 1) := by decide +kernel
theorem dX9_sendsFrame_114 : decode cX9_sendsFrame 114 = .ok (.getfield 22, 3) := by decide +kernel
theorem dX9_sendsFrame_117 : decode cX9_sendsFrame 117 = .ok (.sipush 200, 3) := by decide +kernel
theorem dX9_sendsFrame_120 : decode cX9_sendsFrame 120 = .ok (.iload_n 1, 1) := by decide +kernel
theorem dX9_sendsFrame_121 : decode cX9_sendsFrame 121 = .ok (.imul, 1) := by decide +kernel
theorem dX9_sendsFrame_122 : decode cX9_sendsFrame 122 = .ok (.iload_n 2, 1) := by decide +kernel
theorem dX9_sendsFrame_123 : decode cX9_sendsFrame 123 = .ok (.iadd, 1) := by decide +kernel
theorem dX9_sendsFrame_124 : decode cX9_sendsFrame 124 = .ok (.iload 4, 2) := by decide +kernel
theorem dX9_sendsFrame_126 : decode cX9_sendsFrame 126 = .ok (.iadd, 1) := by decide +kernel
theorem dX9_sendsFrame_127 : decode cX9_sendsFrame 127 = .ok (.iaload, 1) := by decide +kernel
theorem dX9_sendsFrame_128 : decode cX9_sendsFrame 128 = .ok (.iastore, 1) := by decide +kernel
theorem dX9_sendsFrame_129 : decode cX9_sendsFrame 129 = .ok (.aload_n 0, 1) := by decide +kernel
theorem dX9_sendsFrame_130 : decode cX9_sendsFrame 130 = .ok (.dup, 1) := by decide +kernel
theorem dX9_sendsFrame_131 : decode cX9_sendsFrame 131 = .ok (.getfield 193, 3) := by decide +kernel
theorem dX9_sendsFrame_134 : decode cX9_sendsFrame 134 = .ok (.iload_n 2, 1) := by decide +kernel
theorem dX9_sendsFrame_135 : decode cX9_sendsFrame 135 = .ok (.iload 4, 2) := by decide +kernel
theorem dX9_sendsFrame_137 : decode cX9_sendsFrame 137 = .ok (.iadd, 1) := by decide +kernel
theorem dX9_sendsFrame_138 : decode cX9_sendsFrame 138 = .ok (.aload_n 0, 1) := by decide +kernel
theorem dX9_sendsFrame_139 : decode cX9_sendsFrame 139 = .ok (.iload_n 1, 1) := by decide +kernel
theorem dX9_sendsFrame_140 : decode cX9_sendsFrame 140 = .ok (.bipush 17, 2) := by decide +kernel
theorem dX9_sendsFrame_142 : decode cX9_sendsFrame 142 = .ok (.invokevirtual 106, 3) := by decide +kernel
theorem dX9_sendsFrame_145 : decode cX9_sendsFrame 145 = .ok (.if_icmp .ge 7, 3) := by decide +kernel
theorem dX9_sendsFrame_148 : decode cX9_sendsFrame 148 = .ok (.iconst 1, 1) := by decide +kernel
theorem dX9_sendsFrame_149 : decode cX9_sendsFrame 149 = .ok (.goto 4, 3) := by decide +kernel
theorem dX9_sendsFrame_152 : decode cX9_sendsFrame 152 = .ok (.iconst 0, 1) := by decide +kernel
theorem dX9_sendsFrame_153 : decode cX9_sendsFrame 153 = .ok (.iadd, 1) := by decide +kernel
theorem dX9_sendsFrame_154 : decode cX9_sendsFrame 154 = .ok (.putfield 193, 3) := by decide +kernel
theorem dX9_sendsFrame_157 : decode cX9_sendsFrame 157 = .ok (.iinc 4 1, 3) := by decide +kernel
theorem dX9_sendsFrame_160 : decode cX9_sendsFrame 160 = .ok (.goto (-66), 3) := by decide +kernel
theorem dX9_sendsFrame_163 : decode cX9_sendsFrame 163 = .ok (.aload_n 0, 1) := by decide +kernel
theorem dX9_sendsFrame_164 : decode cX9_sendsFrame 164 = .ok (.iload_n 1, 1) := by decide +kernel
theorem dX9_sendsFrame_165 : decode cX9_sendsFrame 165 = .ok (.iconst 5, 1) := by decide +kernel
theorem dX9_sendsFrame_166 : decode cX9_sendsFrame 166 = .ok (.bipush (-8), 2) := by decide +kernel
theorem dX9_sendsFrame_168 : decode cX9_sendsFrame 168 = .ok (.iload_n 3, 1) := by decide +kernel
theorem dX9_sendsFrame_169 : decode cX9_sendsFrame 169 = .ok (.imul, 1) := by decide +kernel
theorem dX9_sendsFrame_170 : decode cX9_sendsFrame 170 = .ok (.invokevirtual 110, 3) := by decide +kernel
theorem dX9_sendsFrame_173 : decode cX9_sendsFrame 173 = .ok (.aload_n 0, 1) := by decide +kernel
theorem dX9_sendsFrame_174 : decode cX9_sendsFrame 174 = .ok (.iload_n 1, 1) := by decide +kernel
theorem dX9_sendsFrame_175 : decode cX9_sendsFrame 175 = .ok (.bipush 7, 2) := by decide +kernel
theorem dX9_sendsFrame_177 : decode cX9_sendsFrame 177 = .ok (.iload_n 2, 1) := by decide +kernel
theorem dX9_sendsFrame_178 : decode cX9_sendsFrame 178 = .ok (.iload_n 3, 1) := by decide +kernel
theorem dX9_sendsFrame_179 : decode cX9_sendsFrame 179 = .ok (.iadd, 1) := by decide +kernel
theorem dX9_sendsFrame_180 : decode cX9_sendsFrame 180 = .ok (.invokevirtual 114, 3) := by decide +kernel
theorem dX9_sendsFrame_183 : decode cX9_sendsFrame 183 = .ok (.aload_n 0, 1) := by decide +kernel
theorem dX9_sendsFrame_184 : decode cX9_sendsFrame 184 = .ok (.iload_n 1, 1) := by decide +kernel
theorem dX9_sendsFrame_185 : decode cX9_sendsFrame 185 = .ok (.bipush 17, 2) := by decide +kernel
theorem dX9_sendsFrame_187 : decode cX9_sendsFrame 187 = .ok (.iload_n 2, 1) := by decide +kernel
theorem dX9_sendsFrame_188 : decode cX9_sendsFrame 188 = .ok (.iload_n 3, 1) := by decide +kernel
theorem dX9_sendsFrame_189 : decode cX9_sendsFrame 189 = .ok (.iadd, 1) := by decide +kernel
theorem dX9_sendsFrame_190 : decode cX9_sendsFrame 190 = .ok (.aload_n 0, 1) := by decide +kernel
theorem dX9_sendsFrame_191 : decode cX9_sendsFrame 191 = .ok (.iload_n 1, 1) := by decide +kernel
theorem dX9_sendsFrame_192 : decode cX9_sendsFrame 192 = .ok (.bipush 17, 2) := by decide +kernel
theorem dX9_sendsFrame_194 : decode cX9_sendsFrame 194 = .ok (.invokevirtual 106, 3) := by decide +kernel
theorem dX9_sendsFrame_197 : decode cX9_sendsFrame 197 = .ok (.if_icmp .le 9, 3) := by decide +kernel
theorem dX9_sendsFrame_200 : decode cX9_sendsFrame 200 = .ok (.iload_n 2, 1) := by decide +kernel
theorem dX9_sendsFrame_201 : decode cX9_sendsFrame 201 = .ok (.iload_n 3, 1) := by decide +kernel
theorem dX9_sendsFrame_202 : decode cX9_sendsFrame 202 = .ok (.iadd, 1) := by decide +kernel
theorem dX9_sendsFrame_203 : decode cX9_sendsFrame 203 = .ok (.goto 10, 3) := by decide +kernel
theorem dX9_sendsFrame_206 : decode cX9_sendsFrame 206 = .ok (.aload_n 0, 1) := by decide +kernel
theorem dX9_sendsFrame_207 : decode cX9_sendsFrame 207 = .ok (.iload_n 1, 1) := by decide +kernel
theorem dX9_sendsFrame_208 : decode cX9_sendsFrame 208 = .ok (.bipush 17, 2) := by decide +kernel
theorem dX9_sendsFrame_210 : decode cX9_sendsFrame 210 = .ok (.invokevirtual 106, 3) := by decide +kernel
theorem dX9_sendsFrame_213 : decode cX9_sendsFrame 213 = .ok (.invokevirtual 114, 3) := by decide +kernel
theorem dX9_sendsFrame_216 : decode cX9_sendsFrame 216 = .ok (.return_, 1) := by decide +kernel
set_option maxRecDepth 20000 in
theorem ggX9_sendsIn_X9_of : GoodIn wsX9_sendsIn wsX9_of := goodIn_r _ [5, 6, 46, 47, 48, 49, 50, 51, 52, 53, 54, 55, 56, 57, 58, 59, 60, 61, 62, 63, 64, 65, 66, 67, 68, 69, 70, 71, 72, 73, 74, 75] (by decide +kernel) (by decide +kernel)
set_option maxRecDepth 20000 in
theorem gX9_sendsIn_X9_of : GoodIn wsX9_sendsIn (wsV RX9 106 RX9 yX9_of wsX9_of) := goodIn_app (goodIn_of _ (by decide +kernel)) ggX9_sendsIn_X9_of
set_option maxRecDepth 20000 in
theorem ggX9_sendsIn_X9_send : GoodIn wsX9_sendsIn wsX9_send := goodIn_r _ [10, 11, 12, 13, 14, 15, 16, 17, 18, 4, 19, 46, 47, 48, 49, 50, 51, 52, 53, 54, 55, 56, 57, 58, 59, 60, 61, 62, 63, 64, 65, 66, 67, 68, 69, 70, 71, 72, 73, 74, 75] (by decide +kernel) (by decide +kernel)
set_option maxRecDepth 20000 in
theorem gX9_sendsIn_X9_send : GoodIn wsX9_sendsIn (wsV RX9 189 RX9 yX9_send wsX9_send) := goodIn_app (goodIn_of _ (by decide +kernel)) ggX9_sendsIn_X9_send
set_option maxRecDepth 20000 in
theorem ggX9_sendsIn_X9_trains : GoodIn wsX9_sendsIn wsX9_trains := goodIn_r _ [23, 24, 25, 1, 2, 3, 4, 5, 6, 26, 27, 28, 46, 47, 48, 49, 50, 51, 52, 53, 54, 55, 56, 57, 58, 59, 60, 61, 62, 63, 64, 65, 66, 67, 68, 69, 70, 71, 72, 73, 74, 75] (by decide +kernel) (by decide +kernel)
set_option maxRecDepth 20000 in
theorem gX9_sendsIn_X9_trains : GoodIn wsX9_sendsIn (wsV RX9 196 RX9 yX9_trains wsX9_trains) := goodIn_app (goodIn_of _ (by decide +kernel)) ggX9_sendsIn_X9_trains
set_option maxRecDepth 20000 in
theorem ggX9_sendsIn_X9_sendsFrame : GoodIn wsX9_sendsIn wsX9_sendsFrame := goodIn_r _ [32, 14, 13, 33, 34, 1, 2, 3, 4, 5, 6, 35, 36, 37, 38, 39, 40, 41, 7, 8, 9, 10, 11, 12, 15, 16, 17, 18, 19, 42, 43, 44, 45, 46, 47, 48, 49, 50, 51, 52, 53, 54, 55, 56, 57, 58, 59, 60, 61, 62, 63, 64, 65, 66, 67, 68, 69, 70, 71, 72, 73, 74, 75] (by decide +kernel) (by decide +kernel)
set_option maxRecDepth 20000 in
theorem gX9_sendsIn_X9_sendsFrame : GoodIn wsX9_sendsIn (wsV RX9 199 RX9 yX9_sendsFrame wsX9_sendsFrame) := goodIn_app (goodIn_of _ (by decide +kernel)) ggX9_sendsIn_X9_sendsFrame
theorem dX9_sendsIn_0 : decode cX9_sendsIn 0 = .ok (.aload_n 0, 1) := by decide +kernel
theorem dX9_sendsIn_1 : decode cX9_sendsIn 1 = .ok (.iload_n 1, 1) := by decide +kernel
theorem dX9_sendsIn_2 : decode cX9_sendsIn 2 = .ok (.iconst 0, 1) := by decide +kernel
theorem dX9_sendsIn_3 : decode cX9_sendsIn 3 = .ok (.invokevirtual 106, 3) := by decide +kernel
theorem dX9_sendsIn_6 : decode cX9_sendsIn 6 = .ok (.tableswitch 197 0 6 #[42, 55, 68, 81, 132, 150, 173], 42) := by decide +kernel
theorem dX9_sendsIn_48 : decode cX9_sendsIn 48 = .ok (.aload_n 0, 1) := by decide +kernel
theorem dX9_sendsIn_49 : decode cX9_sendsIn 49 = .ok (.iload_n 1, 1) := by decide +kernel
theorem dX9_sendsIn_50 : decode cX9_sendsIn 50 = .ok (.iconst 0, 1) := by decide +kernel
theorem dX9_sendsIn_51 : decode cX9_sendsIn 51 = .ok (.iconst 0, 1) := by decide +kernel
theorem dX9_sendsIn_52 : decode cX9_sendsIn 52 = .ok (.iconst 0, 1) := by decide +kernel
theorem dX9_sendsIn_53 : decode cX9_sendsIn 53 = .ok (.iconst 0, 1) := by decide +kernel
theorem dX9_sendsIn_54 : decode cX9_sendsIn 54 = .ok (.iconst 0, 1) := by decide +kernel
theorem dX9_sendsIn_55 : decode cX9_sendsIn 55 = .ok (.invokevirtual 189, 3) := by decide +kernel
theorem dX9_sendsIn_58 : decode cX9_sendsIn 58 = .ok (.goto 150, 3) := by decide +kernel
theorem dX9_sendsIn_61 : decode cX9_sendsIn 61 = .ok (.aload_n 0, 1) := by decide +kernel
theorem dX9_sendsIn_62 : decode cX9_sendsIn 62 = .ok (.iload_n 1, 1) := by decide +kernel
theorem dX9_sendsIn_63 : decode cX9_sendsIn 63 = .ok (.iconst 1, 1) := by decide +kernel
theorem dX9_sendsIn_64 : decode cX9_sendsIn 64 = .ok (.iconst 0, 1) := by decide +kernel
theorem dX9_sendsIn_65 : decode cX9_sendsIn 65 = .ok (.iconst 0, 1) := by decide +kernel
theorem dX9_sendsIn_66 : decode cX9_sendsIn 66 = .ok (.iconst 0, 1) := by decide +kernel
theorem dX9_sendsIn_67 : decode cX9_sendsIn 67 = .ok (.iconst 0, 1) := by decide +kernel
theorem dX9_sendsIn_68 : decode cX9_sendsIn 68 = .ok (.invokevirtual 189, 3) := by decide +kernel
theorem dX9_sendsIn_71 : decode cX9_sendsIn 71 = .ok (.goto 137, 3) := by decide +kernel
theorem dX9_sendsIn_74 : decode cX9_sendsIn 74 = .ok (.aload_n 0, 1) := by decide +kernel
theorem dX9_sendsIn_75 : decode cX9_sendsIn 75 = .ok (.iload_n 1, 1) := by decide +kernel
theorem dX9_sendsIn_76 : decode cX9_sendsIn 76 = .ok (.iconst 2, 1) := by decide +kernel
theorem dX9_sendsIn_77 : decode cX9_sendsIn 77 = .ok (.iconst 0, 1) := by decide +kernel
theorem dX9_sendsIn_78 : decode cX9_sendsIn 78 = .ok (.iconst 0, 1) := by decide +kernel
theorem dX9_sendsIn_79 : decode cX9_sendsIn 79 = .ok (.iconst 0, 1) := by decide +kernel
theorem dX9_sendsIn_80 : decode cX9_sendsIn 80 = .ok (.iconst 0, 1) := by decide +kernel
theorem dX9_sendsIn_81 : decode cX9_sendsIn 81 = .ok (.invokevirtual 189, 3) := by decide +kernel
theorem dX9_sendsIn_84 : decode cX9_sendsIn 84 = .ok (.goto 124, 3) := by decide +kernel
theorem dX9_sendsIn_87 : decode cX9_sendsIn 87 = .ok (.aload_n 0, 1) := by decide +kernel
theorem dX9_sendsIn_88 : decode cX9_sendsIn 88 = .ok (.iload_n 1, 1) := by decide +kernel
theorem dX9_sendsIn_89 : decode cX9_sendsIn 89 = .ok (.iconst 1, 1) := by decide +kernel
theorem dX9_sendsIn_90 : decode cX9_sendsIn 90 = .ok (.invokevirtual 106, 3) := by decide +kernel
theorem dX9_sendsIn_93 : decode cX9_sendsIn 93 = .ok (.bipush 8, 2) := by decide +kernel
theorem dX9_sendsIn_95 : decode cX9_sendsIn 95 = .ok (.if_icmp .ge 7, 3) := by decide +kernel
theorem dX9_sendsIn_98 : decode cX9_sendsIn 98 = .ok (.iconst 1, 1) := by decide +kernel
theorem dX9_sendsIn_99 : decode cX9_sendsIn 99 = .ok (.goto 4, 3) := by decide +kernel
theorem dX9_sendsIn_102 : decode cX9_sendsIn 102 = .ok (.iconst 0, 1) := by decide +kernel
theorem dX9_sendsIn_103 : decode cX9_sendsIn 103 = .ok (.istore_n 2, 1) := by decide +kernel
theorem dX9_sendsIn_104 : decode cX9_sendsIn 104 = .ok (.aload_n 0, 1) := by decide +kernel
theorem dX9_sendsIn_105 : decode cX9_sendsIn 105 = .ok (.iload_n 1, 1) := by decide +kernel
theorem dX9_sendsIn_106 : decode cX9_sendsIn 106 = .ok (.iload_n 2, 1) := by decide +kernel
theorem dX9_sendsIn_107 : decode cX9_sendsIn 107 = .ok (.ifCond .eq 7, 3) := by decide +kernel
theorem dX9_sendsIn_110 : decode cX9_sendsIn 110 = .ok (.iconst 3, 1) := by decide +kernel
theorem dX9_sendsIn_111 : decode cX9_sendsIn 111 = .ok (.goto 4, 3) := by decide +kernel
theorem dX9_sendsIn_114 : decode cX9_sendsIn 114 = .ok (.iconst 0, 1) := by decide +kernel
theorem dX9_sendsIn_115 : decode cX9_sendsIn 115 = .ok (.iload_n 2, 1) := by decide +kernel
theorem dX9_sendsIn_116 : decode cX9_sendsIn 116 = .ok (.ifCond .eq 12, 3) := by decide +kernel
theorem dX9_sendsIn_119 : decode cX9_sendsIn 119 = .ok (.aload_n 0, 1) := by decide +kernel
theorem dX9_sendsIn_120 : decode cX9_sendsIn 120 = .ok (.iload_n 1, 1) := by decide +kernel
theorem dX9_sendsIn_121 : decode cX9_sendsIn 121 = .ok (.iconst 1, 1) := by decide +kernel
theorem dX9_sendsIn_122 : decode cX9_sendsIn 122 = .ok (.invokevirtual 106, 3) := by decide +kernel
theorem dX9_sendsIn_125 : decode cX9_sendsIn 125 = .ok (.goto 4, 3) := by decide +kernel
theorem dX9_sendsIn_128 : decode cX9_sendsIn 128 = .ok (.iconst 0, 1) := by decide +kernel
theorem dX9_sendsIn_129 : decode cX9_sendsIn 129 = .ok (.iconst 0, 1) := by decide +kernel
theorem dX9_sendsIn_130 : decode cX9_sendsIn 130 = .ok (.iconst 0, 1) := by decide +kernel
theorem dX9_sendsIn_131 : decode cX9_sendsIn 131 = .ok (.iconst 0, 1) := by decide +kernel
theorem dX9_sendsIn_132 : decode cX9_sendsIn 132 = .ok (.invokevirtual 189, 3) := by decide +kernel
theorem dX9_sendsIn_135 : decode cX9_sendsIn 135 = .ok (.goto 73, 3) := by decide +kernel
theorem dX9_sendsIn_138 : decode cX9_sendsIn 138 = .ok (.aload_n 0, 1) := by decide +kernel
theorem dX9_sendsIn_139 : decode cX9_sendsIn 139 = .ok (.iload_n 1, 1) := by decide +kernel
theorem dX9_sendsIn_140 : decode cX9_sendsIn 140 = .ok (.iconst 4, 1) := by decide +kernel
theorem dX9_sendsIn_141 : decode cX9_sendsIn 141 = .ok (.iconst 0, 1) := by decide +kernel
theorem dX9_sendsIn_142 : decode cX9_sendsIn 142 = .ok (.iconst 0, 1) := by decide +kernel
theorem dX9_sendsIn_143 : decode cX9_sendsIn 143 = .ok (.iconst 0, 1) := by decide +kernel
theorem dX9_sendsIn_144 : decode cX9_sendsIn 144 = .ok (.iconst 0, 1) := by decide +kernel
theorem dX9_sendsIn_145 : decode cX9_sendsIn 145 = .ok (.invokevirtual 189, 3) := by decide +kernel
theorem dX9_sendsIn_148 : decode cX9_sendsIn 148 = .ok (.aload_n 0, 1) := by decide +kernel
theorem dX9_sendsIn_149 : decode cX9_sendsIn 149 = .ok (.iload_n 1, 1) := by decide +kernel
theorem dX9_sendsIn_150 : decode cX9_sendsIn 150 = .ok (.invokevirtual 196, 3) := by decide +kernel
theorem dX9_sendsIn_153 : decode cX9_sendsIn 153 = .ok (.goto 55, 3) := by decide +kernel
theorem dX9_sendsIn_156 : decode cX9_sendsIn 156 = .ok (.aload_n 0, 1) := by decide +kernel
theorem dX9_sendsIn_157 : decode cX9_sendsIn 157 = .ok (.iload_n 1, 1) := by decide +kernel
theorem dX9_sendsIn_158 : decode cX9_sendsIn 158 = .ok (.iconst 5, 1) := by decide +kernel
theorem dX9_sendsIn_159 : decode cX9_sendsIn 159 = .ok (.aload_n 0, 1) := by decide +kernel
theorem dX9_sendsIn_160 : decode cX9_sendsIn 160 = .ok (.iload_n 1, 1) := by decide +kernel
theorem dX9_sendsIn_161 : decode cX9_sendsIn 161 = .ok (.iconst 2, 1) := by decide +kernel
theorem dX9_sendsIn_162 : decode cX9_sendsIn 162 = .ok (.invokevirtual 106, 3) := by decide +kernel
theorem dX9_sendsIn_165 : decode cX9_sendsIn 165 = .ok (.aload_n 0, 1) := by decide +kernel
theorem dX9_sendsIn_166 : decode cX9_sendsIn 166 = .ok (.iload_n 1, 1) := by decide +kernel
theorem dX9_sendsIn_167 : decode cX9_sendsIn 167 = .ok (.iconst 3, 1) := by decide +kernel
theorem dX9_sendsIn_168 : decode cX9_sendsIn 168 = .ok (.invokevirtual 106, 3) := by decide +kernel
theorem dX9_sendsIn_171 : decode cX9_sendsIn 171 = .ok (.iconst 0, 1) := by decide +kernel
theorem dX9_sendsIn_172 : decode cX9_sendsIn 172 = .ok (.iconst 0, 1) := by decide +kernel
theorem dX9_sendsIn_173 : decode cX9_sendsIn 173 = .ok (.invokevirtual 189, 3) := by decide +kernel
theorem dX9_sendsIn_176 : decode cX9_sendsIn 176 = .ok (.goto 32, 3) := by decide +kernel
theorem dX9_sendsIn_179 : decode cX9_sendsIn 179 = .ok (.aload_n 0, 1) := by decide +kernel
theorem dX9_sendsIn_180 : decode cX9_sendsIn 180 = .ok (.iload_n 1, 1) := by decide +kernel
theorem dX9_sendsIn_181 : decode cX9_sendsIn 181 = .ok (.bipush 6, 2) := by decide +kernel
theorem dX9_sendsIn_183 : decode cX9_sendsIn 183 = .ok (.aload_n 0, 1) := by decide +kernel
theorem dX9_sendsIn_184 : decode cX9_sendsIn 184 = .ok (.iload_n 1, 1) := by decide +kernel
theorem dX9_sendsIn_185 : decode cX9_sendsIn 185 = .ok (.iconst 2, 1) := by decide +kernel
theorem dX9_sendsIn_186 : decode cX9_sendsIn 186 = .ok (.invokevirtual 106, 3) := by decide +kernel
theorem dX9_sendsIn_189 : decode cX9_sendsIn 189 = .ok (.aload_n 0, 1) := by decide +kernel
theorem dX9_sendsIn_190 : decode cX9_sendsIn 190 = .ok (.iload_n 1, 1) := by decide +kernel
theorem dX9_sendsIn_191 : decode cX9_sendsIn 191 = .ok (.iconst 4, 1) := by decide +kernel
theorem dX9_sendsIn_192 : decode cX9_sendsIn 192 = .ok (.invokevirtual 106, 3) := by decide +kernel
theorem dX9_sendsIn_195 : decode cX9_sendsIn 195 = .ok (.iconst 0, 1) := by decide +kernel
theorem dX9_sendsIn_196 : decode cX9_sendsIn 196 = .ok (.iconst 0, 1) := by decide +kernel
theorem dX9_sendsIn_197 : decode cX9_sendsIn 197 = .ok (.invokevirtual 189, 3) := by decide +kernel
theorem dX9_sendsIn_200 : decode cX9_sendsIn 200 = .ok (.goto 8, 3) := by decide +kernel
theorem dX9_sendsIn_203 : decode cX9_sendsIn 203 = .ok (.aload_n 0, 1) := by decide +kernel
theorem dX9_sendsIn_204 : decode cX9_sendsIn 204 = .ok (.iload_n 1, 1) := by decide +kernel
theorem dX9_sendsIn_205 : decode cX9_sendsIn 205 = .ok (.invokevirtual 199, 3) := by decide +kernel
theorem dX9_sendsIn_208 : decode cX9_sendsIn 208 = .ok (.return_, 1) := by decide +kernel
set_option maxRecDepth 20000 in
theorem ggX9_does_X9_hear : GoodIn wsX9_does wsX9_hear := goodIn_r _ [6, 7, 8, 9, 10, 11, 12, 13, 14, 15, 16, 17, 5, 18, 135, 136, 137, 138, 139, 140, 141, 142, 143, 144, 145, 146, 147, 148, 149, 150, 151, 152, 153, 154, 155, 156, 157, 158, 159, 160, 161, 162, 163, 164] (by decide +kernel) (by decide +kernel)
set_option maxRecDepth 20000 in
theorem gX9_does_X9_hear : GoodIn wsX9_does (wsV RX9 202 RX9 yX9_hear wsX9_hear) := goodIn_app (goodIn_of _ (by decide +kernel)) ggX9_does_X9_hear
set_option maxRecDepth 20000 in
theorem ggX9_does_X9_mayGiveUp : GoodIn wsX9_does wsX9_mayGiveUp := goodIn_r _ [22, 23, 24, 25, 5, 26, 27, 28, 29, 30, 31, 32, 33, 34, 35, 1, 36, 37, 38, 39, 40, 41, 42, 43, 44, 45, 46, 135, 136, 137, 138, 139, 140, 141, 142, 143, 144, 145, 146, 147, 148, 149, 150, 151, 152, 153, 154, 155, 156, 157, 158, 159, 160, 161, 162, 163, 164] (by decide +kernel) (by decide +kernel)
set_option maxRecDepth 20000 in
theorem gX9_does_X9_mayGiveUp : GoodIn wsX9_does (wsV RX9 205 RX9 yX9_mayGiveUp wsX9_mayGiveUp) := goodIn_app (goodIn_of _ (by decide +kernel)) ggX9_does_X9_mayGiveUp
set_option maxRecDepth 20000 in
theorem ggX9_does_X9_hearsIn : GoodIn wsX9_does wsX9_hearsIn := goodIn_r _ [50, 23, 24, 25, 5, 26, 27, 51, 52, 53, 54, 12, 32, 33, 34, 35, 1, 36, 37, 38, 39, 40, 41, 42, 43, 44, 45, 46, 28, 29, 30, 31, 55, 56, 57, 58, 59, 60, 61, 62, 63, 64, 65, 66, 67, 68, 69, 70, 71, 72, 73, 74, 75, 76, 77, 78, 79, 80, 81, 82, 83, 84, 85, 86, 87, 88, 89, 14, 135, 136, 137, 138, 139, 140, 141, 142, 143, 144, 145, 146, 147, 148, 149, 150, 151, 152, 153, 154, 155, 156, 157, 158, 159, 160, 161, 162, 163, 164] (by decide +kernel) (by decide +kernel)
set_option maxRecDepth 20000 in
theorem gX9_does_X9_hearsIn : GoodIn wsX9_does (wsV RX9 208 RX9 yX9_hearsIn wsX9_hearsIn) := goodIn_app (goodIn_of _ (by decide +kernel)) ggX9_does_X9_hearsIn
set_option maxRecDepth 20000 in
theorem ggX9_does_X9_looksIn : GoodIn wsX9_does wsX9_looksIn := goodIn_r _ [93, 94, 23, 24, 25, 5, 26, 27, 32, 33, 34, 35, 1, 36, 37, 38, 39, 40, 41, 42, 43, 44, 45, 46, 28, 29, 30, 31, 95, 96, 97, 98, 99, 100, 101, 102, 103, 104, 105, 106, 84, 107, 108, 109, 135, 136, 137, 138, 139, 140, 141, 142, 143, 144, 145, 146, 147, 148, 149, 150, 151, 152, 153, 154, 155, 156, 157, 158, 159, 160, 161, 162, 163, 164] (by decide +kernel) (by decide +kernel)
set_option maxRecDepth 20000 in
theorem gX9_does_X9_looksIn : GoodIn wsX9_does (wsV RX9 211 RX9 yX9_looksIn wsX9_looksIn) := goodIn_app (goodIn_of _ (by decide +kernel)) ggX9_does_X9_looksIn
set_option maxRecDepth 20000 in
theorem ggX9_does_X9_sendsIn : GoodIn wsX9_does wsX9_sendsIn := goodIn_r _ [113, 23, 24, 25, 5, 26, 27, 114, 115, 116, 117, 7, 94, 118, 8, 13, 15, 16, 17, 18, 119, 120, 121, 122, 99, 38, 123, 124, 125, 126, 127, 128, 129, 130, 131, 132, 133, 134, 43, 44, 45, 46, 28, 29, 30, 31, 135, 136, 137, 138, 139, 140, 141, 142, 143, 144, 145, 146, 147, 148, 149, 150, 151, 152, 153, 154, 155, 156, 157, 158, 159, 160, 161, 162, 163, 164] (by decide +kernel) (by decide +kernel)
set_option maxRecDepth 20000 in
theorem gX9_does_X9_sendsIn : GoodIn wsX9_does (wsV RX9 214 RX9 yX9_sendsIn wsX9_sendsIn) := goodIn_app (goodIn_of _ (by decide +kernel)) ggX9_does_X9_sendsIn
set_option maxRecDepth 20000 in
theorem ggX9_does_X9_add : GoodIn wsX9_does wsX9_add := goodIn_r _ [31, 27, 135, 136, 137, 138, 139, 140, 141, 142, 143, 144, 145, 146, 147, 148, 149, 150, 151, 152, 153, 154, 155, 156, 157, 158, 159, 160, 161, 162, 163, 164] (by decide +kernel) (by decide +kernel)
set_option maxRecDepth 20000 in
theorem gX9_does_X9_add : GoodIn wsX9_does (wsV RX9 110 RX9 yX9_add wsX9_add) := goodIn_app (goodIn_of _ (by decide +kernel)) ggX9_does_X9_add
theorem dX9_does_0 : decode cX9_does 0 = .ok (.aload_n 0, 1) := by decide +kernel
theorem dX9_does_1 : decode cX9_does 1 = .ok (.iload_n 1, 1) := by decide +kernel
theorem dX9_does_2 : decode cX9_does 2 = .ok (.invokevirtual 202, 3) := by decide +kernel
theorem dX9_does_5 : decode cX9_does 5 = .ok (.aload_n 0, 1) := by decide +kernel
theorem dX9_does_6 : decode cX9_does 6 = .ok (.iconst 0, 1) := by decide +kernel
theorem dX9_does_7 : decode cX9_does 7 = .ok (.putfield 127, 3) := by decide +kernel
theorem dX9_does_10 : decode cX9_does 10 = .ok (.aload_n 0, 1) := by decide +kernel
theorem dX9_does_11 : decode cX9_does 11 = .ok (.iload_n 1, 1) := by decide +kernel
theorem dX9_does_12 : decode cX9_does 12 = .ok (.invokevirtual 205, 3) := by decide +kernel
theorem dX9_does_15 : decode cX9_does 15 = .ok (.aload_n 0, 1) := by decide +kernel
theorem dX9_does_16 : decode cX9_does 16 = .ok (.getfield 127, 3) := by decide +kernel
theorem dX9_does_19 : decode cX9_does 19 = .ok (.ifCond .ne 8, 3) := by decide +kernel
theorem dX9_does_22 : decode cX9_does 22 = .ok (.aload_n 0, 1) := by decide +kernel
theorem dX9_does_23 : decode cX9_does 23 = .ok (.iload_n 1, 1) := by decide +kernel
theorem dX9_does_24 : decode cX9_does 24 = .ok (.invokevirtual 208, 3) := by decide +kernel
theorem dX9_does_27 : decode cX9_does 27 = .ok (.aload_n 0, 1) := by decide +kernel
theorem dX9_does_28 : decode cX9_does 28 = .ok (.getfield 127, 3) := by decide +kernel
theorem dX9_does_31 : decode cX9_does 31 = .ok (.ifCond .ne 8, 3) := by decide +kernel
theorem dX9_does_34 : decode cX9_does 34 = .ok (.aload_n 0, 1) := by decide +kernel
theorem dX9_does_35 : decode cX9_does 35 = .ok (.iload_n 1, 1) := by decide +kernel
theorem dX9_does_36 : decode cX9_does 36 = .ok (.invokevirtual 211, 3) := by decide +kernel
theorem dX9_does_39 : decode cX9_does 39 = .ok (.aload_n 0, 1) := by decide +kernel
theorem dX9_does_40 : decode cX9_does 40 = .ok (.iload_n 1, 1) := by decide +kernel
theorem dX9_does_41 : decode cX9_does 41 = .ok (.invokevirtual 214, 3) := by decide +kernel
theorem dX9_does_44 : decode cX9_does 44 = .ok (.aload_n 0, 1) := by decide +kernel
theorem dX9_does_45 : decode cX9_does 45 = .ok (.iload_n 1, 1) := by decide +kernel
theorem dX9_does_46 : decode cX9_does 46 = .ok (.iconst 1, 1) := by decide +kernel
theorem dX9_does_47 : decode cX9_does 47 = .ok (.iconst 1, 1) := by decide +kernel
theorem dX9_does_48 : decode cX9_does 48 = .ok (.invokevirtual 110, 3) := by decide +kernel
theorem dX9_does_51 : decode cX9_does 51 = .ok (.return_, 1) := by decide +kernel
set_option maxRecDepth 20000 in
theorem ggX9_go_X9_within : GoodIn wsX9_go wsX9_within := goodIn_r _ [6] (by decide +kernel) (by decide +kernel)
set_option maxRecDepth 20000 in
theorem gX9_go_X9_within : GoodIn wsX9_go (va_wsS RX9 65 yX9_within wsX9_within) := goodIn_app (goodIn_of _ (by decide +kernel)) ggX9_go_X9_within
set_option maxRecDepth 20000 in
theorem ggX9_go_X9_does : GoodIn wsX9_go wsX9_does := goodIn_r _ [10, 11, 12, 13, 14, 5, 15, 2, 16, 17, 18, 19, 20, 21, 22, 23, 24, 25, 26, 27, 28, 29, 30, 31, 32, 33, 34, 35, 36, 37, 38, 39, 40, 41, 42, 43, 1, 44, 45, 46, 47, 48, 49, 50, 51, 52, 53, 54, 55, 56, 57, 58, 59, 60, 61, 62, 63, 64, 65, 66, 67, 68, 69, 70, 71, 72, 73, 74, 75, 76, 77, 78, 79, 80, 81, 82, 83, 84, 85, 86, 87, 88, 89, 90, 91, 92, 93, 94, 95, 96, 97, 98, 99, 100, 101, 102, 103, 104, 105, 106, 107, 108, 109, 110, 111, 112, 113, 114, 115, 116, 117, 118, 119, 120, 121, 122, 123, 124, 125, 126, 127, 128, 129, 130, 131, 132, 133, 134, 135, 136, 137, 138, 139, 140, 141, 142, 143, 144, 145, 146, 147, 148, 149, 150, 151, 152, 153, 154, 155, 156, 157, 158, 159, 160, 161, 162, 163, 164, 165, 166, 167, 168, 169, 170, 171] (by decide +kernel) (by decide +kernel)
set_option maxRecDepth 20000 in
theorem gX9_go_X9_does : GoodIn wsX9_go (wsV RX9 217 RX9 yX9_does wsX9_does) := goodIn_app (goodIn_of _ (by decide +kernel)) ggX9_go_X9_does
theorem dX9_go_0 : decode cX9_go 0 = .ok (.iload_n 1, 1) := by decide +kernel
theorem dX9_go_1 : decode cX9_go 1 = .ok (.iconst 1, 1) := by decide +kernel
theorem dX9_go_2 : decode cX9_go 2 = .ok (.bipush 100, 2) := by decide +kernel
theorem dX9_go_4 : decode cX9_go 4 = .ok (.invokestatic 65, 3) := by decide +kernel
theorem dX9_go_7 : decode cX9_go 7 = .ok (.ifCond .ne 7, 3) := by decide +kernel
theorem dX9_go_10 : decode cX9_go 10 = .ok (.sipush (-1002), 3) := by decide +kernel
theorem dX9_go_13 : decode cX9_go 13 = .ok (.ireturn, 1) := by decide +kernel
theorem dX9_go_14 : decode cX9_go 14 = .ok (.aload_n 0, 1) := by decide +kernel
theorem dX9_go_15 : decode cX9_go 15 = .ok (.getfield 131, 3) := by decide +kernel
theorem dX9_go_18 : decode cX9_go 18 = .ok (.istore_n 2, 1) := by decide +kernel
theorem dX9_go_19 : decode cX9_go 19 = .ok (.iconst 0, 1) := by decide +kernel
theorem dX9_go_20 : decode cX9_go 20 = .ok (.istore_n 3, 1) := by decide +kernel
theorem dX9_go_21 : decode cX9_go 21 = .ok (.iload_n 3, 1) := by decide +kernel
theorem dX9_go_22 : decode cX9_go 22 = .ok (.iload_n 1, 1) := by decide +kernel
theorem dX9_go_23 : decode cX9_go 23 = .ok (.if_icmp .ge 29, 3) := by decide +kernel
theorem dX9_go_26 : decode cX9_go 26 = .ok (.aload_n 0, 1) := by decide +kernel
theorem dX9_go_27 : decode cX9_go 27 = .ok (.iconst 0, 1) := by decide +kernel
theorem dX9_go_28 : decode cX9_go 28 = .ok (.invokevirtual 217, 3) := by decide +kernel
theorem dX9_go_31 : decode cX9_go 31 = .ok (.aload_n 0, 1) := by decide +kernel
theorem dX9_go_32 : decode cX9_go 32 = .ok (.iconst 1, 1) := by decide +kernel
theorem dX9_go_33 : decode cX9_go 33 = .ok (.invokevirtual 217, 3) := by decide +kernel
theorem dX9_go_36 : decode cX9_go 36 = .ok (.aload_n 0, 1) := by decide +kernel
theorem dX9_go_37 : decode cX9_go 37 = .ok (.dup, 1) := by decide +kernel
theorem dX9_go_38 : decode cX9_go 38 = .ok (.getfield 121, 3) := by decide +kernel
theorem dX9_go_41 : decode cX9_go 41 = .ok (.iconst 1, 1) := by decide +kernel
theorem dX9_go_42 : decode cX9_go 42 = .ok (.iadd, 1) := by decide +kernel
theorem dX9_go_43 : decode cX9_go 43 = .ok (.putfield 121, 3) := by decide +kernel
theorem dX9_go_46 : decode cX9_go 46 = .ok (.iinc 3 1, 3) := by decide +kernel
theorem dX9_go_49 : decode cX9_go 49 = .ok (.goto (-28), 3) := by decide +kernel
theorem dX9_go_52 : decode cX9_go 52 = .ok (.aload_n 0, 1) := by decide +kernel
theorem dX9_go_53 : decode cX9_go 53 = .ok (.getfield 131, 3) := by decide +kernel
theorem dX9_go_56 : decode cX9_go 56 = .ok (.iload_n 2, 1) := by decide +kernel
theorem dX9_go_57 : decode cX9_go 57 = .ok (.isub, 1) := by decide +kernel
theorem dX9_go_58 : decode cX9_go 58 = .ok (.ireturn, 1) := by decide +kernel
set_option maxRecDepth 20000 in
theorem ggX9_end_X9_isEnd : GoodIn wsX9_end wsX9_isEnd := goodIn_r _ [4, 5, 6, 3, 7] (by decide +kernel) (by decide +kernel)
set_option maxRecDepth 20000 in
theorem gX9_end_X9_isEnd : GoodIn wsX9_end (va_wsS RX9 103 yX9_isEnd wsX9_isEnd) := goodIn_app (goodIn_of _ (by decide +kernel)) ggX9_end_X9_isEnd
set_option maxRecDepth 20000 in
theorem ggX9_end_X9_within : GoodIn wsX9_end wsX9_within := goodIn_r _ [7] (by decide +kernel) (by decide +kernel)
set_option maxRecDepth 20000 in
theorem gX9_end_X9_within : GoodIn wsX9_end (va_wsS RX9 65 yX9_within wsX9_within) := goodIn_app (goodIn_of _ (by decide +kernel)) ggX9_end_X9_within
set_option maxRecDepth 20000 in
theorem ggX9_end_X9_of : GoodIn wsX9_end wsX9_of := goodIn_r _ [11, 12, 13, 14, 15, 16, 17, 18, 19, 20, 21, 22, 23, 24, 25, 26, 27, 28, 29, 30, 31, 32, 33, 34, 35, 36, 37, 38, 39, 40, 41, 42] (by decide +kernel) (by decide +kernel)
set_option maxRecDepth 20000 in
theorem gX9_end_X9_of : GoodIn wsX9_end (wsV RX9 106 RX9 yX9_of wsX9_of) := goodIn_app (goodIn_of _ (by decide +kernel)) ggX9_end_X9_of
theorem dX9_end_0 : decode cX9_end 0 = .ok (.iload_n 1, 1) := by decide +kernel
theorem dX9_end_1 : decode cX9_end 1 = .ok (.invokestatic 103, 3) := by decide +kernel
theorem dX9_end_4 : decode cX9_end 4 = .ok (.ifCond .ne 7, 3) := by decide +kernel
theorem dX9_end_7 : decode cX9_end 7 = .ok (.sipush (-1001), 3) := by decide +kernel
theorem dX9_end_10 : decode cX9_end 10 = .ok (.ireturn, 1) := by decide +kernel
theorem dX9_end_11 : decode cX9_end 11 = .ok (.iload_n 2, 1) := by decide +kernel
theorem dX9_end_12 : decode cX9_end 12 = .ok (.iconst 0, 1) := by decide +kernel
theorem dX9_end_13 : decode cX9_end 13 = .ok (.bipush 15, 2) := by decide +kernel
theorem dX9_end_15 : decode cX9_end 15 = .ok (.invokestatic 65, 3) := by decide +kernel
theorem dX9_end_18 : decode cX9_end 18 = .ok (.ifCond .eq 12, 3) := by decide +kernel
theorem dX9_end_21 : decode cX9_end 21 = .ok (.aload_n 0, 1) := by decide +kernel
theorem dX9_end_22 : decode cX9_end 22 = .ok (.iload_n 1, 1) := by decide +kernel
theorem dX9_end_23 : decode cX9_end 23 = .ok (.iload_n 2, 1) := by decide +kernel
theorem dX9_end_24 : decode cX9_end 24 = .ok (.invokevirtual 106, 3) := by decide +kernel
theorem dX9_end_27 : decode cX9_end 27 = .ok (.goto 6, 3) := by decide +kernel
theorem dX9_end_30 : decode cX9_end 30 = .ok (.sipush (-1002), 3) := by decide +kernel
theorem dX9_end_33 : decode cX9_end 33 = .ok (.ireturn, 1) := by decide +kernel
set_option maxRecDepth 20000 in
theorem ggX9_band_X9_isEnd : GoodIn wsX9_band wsX9_isEnd := goodIn_r _ [5, 6, 7, 4, 8] (by decide +kernel) (by decide +kernel)
set_option maxRecDepth 20000 in
theorem gX9_band_X9_isEnd : GoodIn wsX9_band (va_wsS RX9 103 yX9_isEnd wsX9_isEnd) := goodIn_app (goodIn_of _ (by decide +kernel)) ggX9_band_X9_isEnd
set_option maxRecDepth 20000 in
theorem ggX9_band_X9_within : GoodIn wsX9_band wsX9_within := goodIn_r _ [8] (by decide +kernel) (by decide +kernel)
set_option maxRecDepth 20000 in
theorem gX9_band_X9_within : GoodIn wsX9_band (va_wsS RX9 65 yX9_within wsX9_within) := goodIn_app (goodIn_of _ (by decide +kernel)) ggX9_band_X9_within
theorem dX9_band_0 : decode cX9_band 0 = .ok (.iload_n 1, 1) := by decide +kernel
theorem dX9_band_1 : decode cX9_band 1 = .ok (.invokestatic 103, 3) := by decide +kernel
theorem dX9_band_4 : decode cX9_band 4 = .ok (.ifCond .eq 27, 3) := by decide +kernel
theorem dX9_band_7 : decode cX9_band 7 = .ok (.iload_n 2, 1) := by decide +kernel
theorem dX9_band_8 : decode cX9_band 8 = .ok (.iconst 0, 1) := by decide +kernel
theorem dX9_band_9 : decode cX9_band 9 = .ok (.bipush 7, 2) := by decide +kernel
theorem dX9_band_11 : decode cX9_band 11 = .ok (.invokestatic 65, 3) := by decide +kernel
theorem dX9_band_14 : decode cX9_band 14 = .ok (.ifCond .eq 17, 3) := by decide +kernel
theorem dX9_band_17 : decode cX9_band 17 = .ok (.aload_n 0, 1) := by decide +kernel
theorem dX9_band_18 : decode cX9_band 18 = .ok (.getfield 13, 3) := by decide +kernel
theorem dX9_band_21 : decode cX9_band 21 = .ok (.bipush 8, 2) := by decide +kernel
theorem dX9_band_23 : decode cX9_band 23 = .ok (.iload_n 1, 1) := by decide +kernel
theorem dX9_band_24 : decode cX9_band 24 = .ok (.imul, 1) := by decide +kernel
theorem dX9_band_25 : decode cX9_band 25 = .ok (.iload_n 2, 1) := by decide +kernel
theorem dX9_band_26 : decode cX9_band 26 = .ok (.iadd, 1) := by decide +kernel
theorem dX9_band_27 : decode cX9_band 27 = .ok (.iaload, 1) := by decide +kernel
theorem dX9_band_28 : decode cX9_band 28 = .ok (.goto 6, 3) := by decide +kernel
theorem dX9_band_31 : decode cX9_band 31 = .ok (.sipush (-1001), 3) := by decide +kernel
theorem dX9_band_34 : decode cX9_band 34 = .ok (.ireturn, 1) := by decide +kernel
set_option maxRecDepth 20000 in
theorem ggX9_learnt_X9_isEnd : GoodIn wsX9_learnt wsX9_isEnd := goodIn_r _ [5, 6, 7, 4, 8] (by decide +kernel) (by decide +kernel)
set_option maxRecDepth 20000 in
theorem gX9_learnt_X9_isEnd : GoodIn wsX9_learnt (va_wsS RX9 103 yX9_isEnd wsX9_isEnd) := goodIn_app (goodIn_of _ (by decide +kernel)) ggX9_learnt_X9_isEnd
set_option maxRecDepth 20000 in
theorem ggX9_learnt_X9_within : GoodIn wsX9_learnt wsX9_within := goodIn_r _ [8] (by decide +kernel) (by decide +kernel)
set_option maxRecDepth 20000 in
theorem gX9_learnt_X9_within : GoodIn wsX9_learnt (va_wsS RX9 65 yX9_within wsX9_within) := goodIn_app (goodIn_of _ (by decide +kernel)) ggX9_learnt_X9_within
theorem dX9_learnt_0 : decode cX9_learnt 0 = .ok (.iload_n 1, 1) := by decide +kernel
theorem dX9_learnt_1 : decode cX9_learnt 1 = .ok (.invokestatic 103, 3) := by decide +kernel
theorem dX9_learnt_4 : decode cX9_learnt 4 = .ok (.ifCond .eq 25, 3) := by decide +kernel
theorem dX9_learnt_7 : decode cX9_learnt 7 = .ok (.iload_n 2, 1) := by decide +kernel
theorem dX9_learnt_8 : decode cX9_learnt 8 = .ok (.iconst 0, 1) := by decide +kernel
theorem dX9_learnt_9 : decode cX9_learnt 9 = .ok (.iconst 3, 1) := by decide +kernel
theorem dX9_learnt_10 : decode cX9_learnt 10 = .ok (.invokestatic 65, 3) := by decide +kernel
theorem dX9_learnt_13 : decode cX9_learnt 13 = .ok (.ifCond .eq 16, 3) := by decide +kernel
theorem dX9_learnt_16 : decode cX9_learnt 16 = .ok (.aload_n 0, 1) := by decide +kernel
theorem dX9_learnt_17 : decode cX9_learnt 17 = .ok (.getfield 16, 3) := by decide +kernel
theorem dX9_learnt_20 : decode cX9_learnt 20 = .ok (.iconst 4, 1) := by decide +kernel
theorem dX9_learnt_21 : decode cX9_learnt 21 = .ok (.iload_n 1, 1) := by decide +kernel
theorem dX9_learnt_22 : decode cX9_learnt 22 = .ok (.imul, 1) := by decide +kernel
theorem dX9_learnt_23 : decode cX9_learnt 23 = .ok (.iload_n 2, 1) := by decide +kernel
theorem dX9_learnt_24 : decode cX9_learnt 24 = .ok (.iadd, 1) := by decide +kernel
theorem dX9_learnt_25 : decode cX9_learnt 25 = .ok (.iaload, 1) := by decide +kernel
theorem dX9_learnt_26 : decode cX9_learnt 26 = .ok (.goto 6, 3) := by decide +kernel
theorem dX9_learnt_29 : decode cX9_learnt 29 = .ok (.sipush (-1001), 3) := by decide +kernel
theorem dX9_learnt_32 : decode cX9_learnt 32 = .ok (.ireturn, 1) := by decide +kernel
set_option maxRecDepth 20000 in
theorem ggX9_got_X9_isEnd : GoodIn wsX9_got wsX9_isEnd := goodIn_r _ [5, 6, 7, 4, 8] (by decide +kernel) (by decide +kernel)
set_option maxRecDepth 20000 in
theorem gX9_got_X9_isEnd : GoodIn wsX9_got (va_wsS RX9 103 yX9_isEnd wsX9_isEnd) := goodIn_app (goodIn_of _ (by decide +kernel)) ggX9_got_X9_isEnd
set_option maxRecDepth 20000 in
theorem ggX9_got_X9_of : GoodIn wsX9_got wsX9_of := goodIn_r _ [12, 13, 14, 15, 16, 17, 18, 19, 20, 21, 22, 23, 24, 25, 26, 27, 28, 29, 30, 31, 32, 33, 34, 35, 36, 37, 38, 39, 40, 41, 42, 43] (by decide +kernel) (by decide +kernel)
set_option maxRecDepth 20000 in
theorem gX9_got_X9_of : GoodIn wsX9_got (wsV RX9 106 RX9 yX9_of wsX9_of) := goodIn_app (goodIn_of _ (by decide +kernel)) ggX9_got_X9_of
set_option maxRecDepth 20000 in
theorem ggX9_got_X9_within : GoodIn wsX9_got wsX9_within := goodIn_r _ [8] (by decide +kernel) (by decide +kernel)
set_option maxRecDepth 20000 in
theorem gX9_got_X9_within : GoodIn wsX9_got (va_wsS RX9 65 yX9_within wsX9_within) := goodIn_app (goodIn_of _ (by decide +kernel)) ggX9_got_X9_within
theorem dX9_got_0 : decode cX9_got 0 = .ok (.iload_n 1, 1) := by decide +kernel
theorem dX9_got_1 : decode cX9_got 1 = .ok (.invokestatic 103, 3) := by decide +kernel
theorem dX9_got_4 : decode cX9_got 4 = .ok (.ifCond .eq 35, 3) := by decide +kernel
theorem dX9_got_7 : decode cX9_got 7 = .ok (.iload_n 2, 1) := by decide +kernel
theorem dX9_got_8 : decode cX9_got 8 = .ok (.iconst 0, 1) := by decide +kernel
theorem dX9_got_9 : decode cX9_got 9 = .ok (.aload_n 0, 1) := by decide +kernel
theorem dX9_got_10 : decode cX9_got 10 = .ok (.iload_n 1, 1) := by decide +kernel
theorem dX9_got_11 : decode cX9_got 11 = .ok (.bipush 9, 2) := by decide +kernel
theorem dX9_got_13 : decode cX9_got 13 = .ok (.invokevirtual 106, 3) := by decide +kernel
theorem dX9_got_16 : decode cX9_got 16 = .ok (.iconst 1, 1) := by decide +kernel
theorem dX9_got_17 : decode cX9_got 17 = .ok (.isub, 1) := by decide +kernel
theorem dX9_got_18 : decode cX9_got 18 = .ok (.invokestatic 65, 3) := by decide +kernel
theorem dX9_got_21 : decode cX9_got 21 = .ok (.ifCond .eq 18, 3) := by decide +kernel
theorem dX9_got_24 : decode cX9_got 24 = .ok (.aload_n 0, 1) := by decide +kernel
theorem dX9_got_25 : decode cX9_got 25 = .ok (.getfield 25, 3) := by decide +kernel
theorem dX9_got_28 : decode cX9_got 28 = .ok (.sipush 200, 3) := by decide +kernel
theorem dX9_got_31 : decode cX9_got 31 = .ok (.iload_n 1, 1) := by decide +kernel
theorem dX9_got_32 : decode cX9_got 32 = .ok (.imul, 1) := by decide +kernel
theorem dX9_got_33 : decode cX9_got 33 = .ok (.iload_n 2, 1) := by decide +kernel
theorem dX9_got_34 : decode cX9_got 34 = .ok (.iadd, 1) := by decide +kernel
theorem dX9_got_35 : decode cX9_got 35 = .ok (.iaload, 1) := by decide +kernel
theorem dX9_got_36 : decode cX9_got 36 = .ok (.goto 6, 3) := by decide +kernel
theorem dX9_got_39 : decode cX9_got 39 = .ok (.sipush (-1001), 3) := by decide +kernel
theorem dX9_got_42 : decode cX9_got 42 = .ok (.ireturn, 1) := by decide +kernel
set_option maxRecDepth 20000 in
theorem ggX9_heard_X9_isEnd : GoodIn wsX9_heard wsX9_isEnd := goodIn_r _ [5, 6, 7, 4, 8] (by decide +kernel) (by decide +kernel)
set_option maxRecDepth 20000 in
theorem gX9_heard_X9_isEnd : GoodIn wsX9_heard (va_wsS RX9 103 yX9_isEnd wsX9_isEnd) := goodIn_app (goodIn_of _ (by decide +kernel)) ggX9_heard_X9_isEnd
set_option maxRecDepth 20000 in
theorem ggX9_heard_X9_within : GoodIn wsX9_heard wsX9_within := goodIn_r _ [8] (by decide +kernel) (by decide +kernel)
set_option maxRecDepth 20000 in
theorem gX9_heard_X9_within : GoodIn wsX9_heard (va_wsS RX9 65 yX9_within wsX9_within) := goodIn_app (goodIn_of _ (by decide +kernel)) ggX9_heard_X9_within
theorem dX9_heard_0 : decode cX9_heard 0 = .ok (.iload_n 1, 1) := by decide +kernel
theorem dX9_heard_1 : decode cX9_heard 1 = .ok (.invokestatic 103, 3) := by decide +kernel
theorem dX9_heard_4 : decode cX9_heard 4 = .ok (.ifCond .ne 7, 3) := by decide +kernel
theorem dX9_heard_7 : decode cX9_heard 7 = .ok (.sipush (-1001), 3) := by decide +kernel
theorem dX9_heard_10 : decode cX9_heard 10 = .ok (.ireturn, 1) := by decide +kernel
theorem dX9_heard_11 : decode cX9_heard 11 = .ok (.iload_n 2, 1) := by decide +kernel
theorem dX9_heard_12 : decode cX9_heard 12 = .ok (.iconst 0, 1) := by decide +kernel
theorem dX9_heard_13 : decode cX9_heard 13 = .ok (.iconst 4, 1) := by decide +kernel
theorem dX9_heard_14 : decode cX9_heard 14 = .ok (.invokestatic 65, 3) := by decide +kernel
theorem dX9_heard_17 : decode cX9_heard 17 = .ok (.ifCond .eq 16, 3) := by decide +kernel
theorem dX9_heard_20 : decode cX9_heard 20 = .ok (.aload_n 0, 1) := by decide +kernel
theorem dX9_heard_21 : decode cX9_heard 21 = .ok (.getfield 28, 3) := by decide +kernel
theorem dX9_heard_24 : decode cX9_heard 24 = .ok (.iconst 5, 1) := by decide +kernel
theorem dX9_heard_25 : decode cX9_heard 25 = .ok (.iload_n 1, 1) := by decide +kernel
theorem dX9_heard_26 : decode cX9_heard 26 = .ok (.imul, 1) := by decide +kernel
theorem dX9_heard_27 : decode cX9_heard 27 = .ok (.iload_n 2, 1) := by decide +kernel
theorem dX9_heard_28 : decode cX9_heard 28 = .ok (.iadd, 1) := by decide +kernel
theorem dX9_heard_29 : decode cX9_heard 29 = .ok (.iaload, 1) := by decide +kernel
theorem dX9_heard_30 : decode cX9_heard 30 = .ok (.goto 6, 3) := by decide +kernel
theorem dX9_heard_33 : decode cX9_heard 33 = .ok (.sipush (-1002), 3) := by decide +kernel
theorem dX9_heard_36 : decode cX9_heard 36 = .ok (.ireturn, 1) := by decide +kernel
theorem dX9_onWay_0 : decode cX9_onWay 0 = .ok (.iconst 0, 1) := by decide +kernel
theorem dX9_onWay_1 : decode cX9_onWay 1 = .ok (.istore_n 1, 1) := by decide +kernel
theorem dX9_onWay_2 : decode cX9_onWay 2 = .ok (.iconst 0, 1) := by decide +kernel
theorem dX9_onWay_3 : decode cX9_onWay 3 = .ok (.istore_n 2, 1) := by decide +kernel
theorem dX9_onWay_4 : decode cX9_onWay 4 = .ok (.iload_n 2, 1) := by decide +kernel
theorem dX9_onWay_5 : decode cX9_onWay 5 = .ok (.bipush 32, 2) := by decide +kernel
theorem dX9_onWay_7 : decode cX9_onWay 7 = .ok (.if_icmp .ge 21, 3) := by decide +kernel
theorem dX9_onWay_10 : decode cX9_onWay 10 = .ok (.iload_n 1, 1) := by decide +kernel
theorem dX9_onWay_11 : decode cX9_onWay 11 = .ok (.aload_n 0, 1) := by decide +kernel
theorem dX9_onWay_12 : decode cX9_onWay 12 = .ok (.getfield 41, 3) := by decide +kernel
theorem dX9_onWay_15 : decode cX9_onWay 15 = .ok (.bipush 8, 2) := by decide +kernel
theorem dX9_onWay_17 : decode cX9_onWay 17 = .ok (.iload_n 2, 1) := by decide +kernel
theorem dX9_onWay_18 : decode cX9_onWay 18 = .ok (.imul, 1) := by decide +kernel
theorem dX9_onWay_19 : decode cX9_onWay 19 = .ok (.iaload, 1) := by decide +kernel
theorem dX9_onWay_20 : decode cX9_onWay 20 = .ok (.iadd, 1) := by decide +kernel
theorem dX9_onWay_21 : decode cX9_onWay 21 = .ok (.istore_n 1, 1) := by decide +kernel
theorem dX9_onWay_22 : decode cX9_onWay 22 = .ok (.iinc 2 1, 3) := by decide +kernel
theorem dX9_onWay_25 : decode cX9_onWay 25 = .ok (.goto (-21), 3) := by decide +kernel
theorem dX9_onWay_28 : decode cX9_onWay 28 = .ok (.iload_n 1, 1) := by decide +kernel
theorem dX9_onWay_29 : decode cX9_onWay 29 = .ok (.ireturn, 1) := by decide +kernel
set_option maxRecDepth 20000 in
theorem ggX9_aboutNow_X9_onWay : GoodIn wsX9_aboutNow wsX9_onWay := goodIn_r _ [8, 9, 10, 11, 12, 13, 14, 15, 16, 17, 18, 19, 20, 21, 22, 23, 24, 25, 26, 27, 28, 29, 30, 31, 32, 33, 34, 35, 36, 37, 38, 39] (by decide +kernel) (by decide +kernel)
set_option maxRecDepth 20000 in
theorem gX9_aboutNow_X9_onWay : GoodIn wsX9_aboutNow (wsV RX9 220 RX9 yX9_onWay wsX9_onWay) := goodIn_app (goodIn_of _ (by decide +kernel)) ggX9_aboutNow_X9_onWay
theorem dX9_aboutNow_0 : decode cX9_aboutNow 0 = .ok (.iload_n 1, 1) := by decide +kernel
theorem dX9_aboutNow_1 : decode cX9_aboutNow 1 = .ok (.tableswitch 55 0 3 #[31, 36, 43, 50], 31) := by decide +kernel
theorem dX9_aboutNow_32 : decode cX9_aboutNow 32 = .ok (.aload_n 0, 1) := by decide +kernel
theorem dX9_aboutNow_33 : decode cX9_aboutNow 33 = .ok (.getfield 34, 3) := by decide +kernel
theorem dX9_aboutNow_36 : decode cX9_aboutNow 36 = .ok (.ireturn, 1) := by decide +kernel
theorem dX9_aboutNow_37 : decode cX9_aboutNow 37 = .ok (.aload_n 0, 1) := by decide +kernel
theorem dX9_aboutNow_38 : decode cX9_aboutNow 38 = .ok (.getfield 38, 3) := by decide +kernel
theorem dX9_aboutNow_41 : decode cX9_aboutNow 41 = .ok (.iconst 0, 1) := by decide +kernel
theorem dX9_aboutNow_42 : decode cX9_aboutNow 42 = .ok (.iaload, 1) := by decide +kernel
theorem dX9_aboutNow_43 : decode cX9_aboutNow 43 = .ok (.ireturn, 1) := by decide +kernel
theorem dX9_aboutNow_44 : decode cX9_aboutNow 44 = .ok (.aload_n 0, 1) := by decide +kernel
theorem dX9_aboutNow_45 : decode cX9_aboutNow 45 = .ok (.getfield 38, 3) := by decide +kernel
theorem dX9_aboutNow_48 : decode cX9_aboutNow 48 = .ok (.iconst 1, 1) := by decide +kernel
theorem dX9_aboutNow_49 : decode cX9_aboutNow 49 = .ok (.iaload, 1) := by decide +kernel
theorem dX9_aboutNow_50 : decode cX9_aboutNow 50 = .ok (.ireturn, 1) := by decide +kernel
theorem dX9_aboutNow_51 : decode cX9_aboutNow 51 = .ok (.aload_n 0, 1) := by decide +kernel
theorem dX9_aboutNow_52 : decode cX9_aboutNow 52 = .ok (.invokevirtual 220, 3) := by decide +kernel
theorem dX9_aboutNow_55 : decode cX9_aboutNow 55 = .ok (.ireturn, 1) := by decide +kernel
theorem dX9_aboutNow_56 : decode cX9_aboutNow 56 = .ok (.aload_n 0, 1) := by decide +kernel
theorem dX9_aboutNow_57 : decode cX9_aboutNow 57 = .ok (.getfield 31, 3) := by decide +kernel
theorem dX9_aboutNow_60 : decode cX9_aboutNow 60 = .ok (.iload_n 1, 1) := by decide +kernel
theorem dX9_aboutNow_61 : decode cX9_aboutNow 61 = .ok (.bipush 20, 2) := by decide +kernel
theorem dX9_aboutNow_63 : decode cX9_aboutNow 63 = .ok (.if_icmp .ge 10, 3) := by decide +kernel
theorem dX9_aboutNow_66 : decode cX9_aboutNow 66 = .ok (.iload_n 1, 1) := by decide +kernel
theorem dX9_aboutNow_67 : decode cX9_aboutNow 67 = .ok (.bipush 10, 2) := by decide +kernel
theorem dX9_aboutNow_69 : decode cX9_aboutNow 69 = .ok (.isub, 1) := by decide +kernel
theorem dX9_aboutNow_70 : decode cX9_aboutNow 70 = .ok (.goto 7, 3) := by decide +kernel
theorem dX9_aboutNow_73 : decode cX9_aboutNow 73 = .ok (.iload_n 1, 1) := by decide +kernel
theorem dX9_aboutNow_74 : decode cX9_aboutNow 74 = .ok (.bipush 12, 2) := by decide +kernel
theorem dX9_aboutNow_76 : decode cX9_aboutNow 76 = .ok (.isub, 1) := by decide +kernel
theorem dX9_aboutNow_77 : decode cX9_aboutNow 77 = .ok (.iaload, 1) := by decide +kernel
theorem dX9_aboutNow_78 : decode cX9_aboutNow 78 = .ok (.ireturn, 1) := by decide +kernel
set_option maxRecDepth 20000 in
theorem ggX9_about_X9_within : GoodIn wsX9_about wsX9_within := goodIn_r _ [4] (by decide +kernel) (by decide +kernel)
set_option maxRecDepth 20000 in
theorem gX9_about_X9_within : GoodIn wsX9_about (va_wsS RX9 65 yX9_within wsX9_within) := goodIn_app (goodIn_of _ (by decide +kernel)) ggX9_about_X9_within
set_option maxRecDepth 20000 in
theorem ggX9_about_X9_aboutNow : GoodIn wsX9_about wsX9_aboutNow := goodIn_r _ [8, 9, 10, 11, 12, 13, 14, 3, 15, 16, 17, 18, 19, 20, 21, 22, 23, 24, 25, 26, 27, 28, 29, 30, 31, 32, 33, 34, 35, 36, 37, 38, 39, 40, 41, 42, 43, 44, 45, 46] (by decide +kernel) (by decide +kernel)
set_option maxRecDepth 20000 in
theorem gX9_about_X9_aboutNow : GoodIn wsX9_about (wsV RX9 223 RX9 yX9_aboutNow wsX9_aboutNow) := goodIn_app (goodIn_of _ (by decide +kernel)) ggX9_about_X9_aboutNow
theorem dX9_about_0 : decode cX9_about 0 = .ok (.iload_n 1, 1) := by decide +kernel
theorem dX9_about_1 : decode cX9_about 1 = .ok (.iconst 0, 1) := by decide +kernel
theorem dX9_about_2 : decode cX9_about 2 = .ok (.iconst 3, 1) := by decide +kernel
theorem dX9_about_3 : decode cX9_about 3 = .ok (.invokestatic 65, 3) := by decide +kernel
theorem dX9_about_6 : decode cX9_about 6 = .ok (.ifCond .ne 25, 3) := by decide +kernel
theorem dX9_about_9 : decode cX9_about 9 = .ok (.iload_n 1, 1) := by decide +kernel
theorem dX9_about_10 : decode cX9_about 10 = .ok (.bipush 10, 2) := by decide +kernel
theorem dX9_about_12 : decode cX9_about 12 = .ok (.bipush 17, 2) := by decide +kernel
theorem dX9_about_14 : decode cX9_about 14 = .ok (.invokestatic 65, 3) := by decide +kernel
theorem dX9_about_17 : decode cX9_about 17 = .ok (.ifCond .ne 14, 3) := by decide +kernel
theorem dX9_about_20 : decode cX9_about 20 = .ok (.iload_n 1, 1) := by decide +kernel
theorem dX9_about_21 : decode cX9_about 21 = .ok (.bipush 20, 2) := by decide +kernel
theorem dX9_about_23 : decode cX9_about 23 = .ok (.bipush 27, 2) := by decide +kernel
theorem dX9_about_25 : decode cX9_about 25 = .ok (.invokestatic 65, 3) := by decide +kernel
theorem dX9_about_28 : decode cX9_about 28 = .ok (.ifCond .eq 11, 3) := by decide +kernel
theorem dX9_about_31 : decode cX9_about 31 = .ok (.aload_n 0, 1) := by decide +kernel
theorem dX9_about_32 : decode cX9_about 32 = .ok (.iload_n 1, 1) := by decide +kernel
theorem dX9_about_33 : decode cX9_about 33 = .ok (.invokevirtual 223, 3) := by decide +kernel
theorem dX9_about_36 : decode cX9_about 36 = .ok (.goto 6, 3) := by decide +kernel
theorem dX9_about_39 : decode cX9_about 39 = .ok (.sipush (-1002), 3) := by decide +kernel
theorem dX9_about_42 : decode cX9_about 42 = .ok (.ireturn, 1) := by decide +kernel
theorem dX9_howMany_0 : decode cX9_howMany 0 = .ok (.iload_n 1, 1) := by decide +kernel
theorem dX9_howMany_1 : decode cX9_howMany 1 = .ok (.tableswitch 104 0 8 #[51, 56, 61, 68, 75, 82, 89, 94, 99], 51) := by decide +kernel
theorem dX9_howMany_52 : decode cX9_howMany 52 = .ok (.aload_n 0, 1) := by decide +kernel
theorem dX9_howMany_53 : decode cX9_howMany 53 = .ok (.getfield 69, 3) := by decide +kernel
theorem dX9_howMany_56 : decode cX9_howMany 56 = .ok (.ireturn, 1) := by decide +kernel
theorem dX9_howMany_57 : decode cX9_howMany 57 = .ok (.aload_n 0, 1) := by decide +kernel
theorem dX9_howMany_58 : decode cX9_howMany 58 = .ok (.getfield 121, 3) := by decide +kernel
theorem dX9_howMany_61 : decode cX9_howMany 61 = .ok (.ireturn, 1) := by decide +kernel
theorem dX9_howMany_62 : decode cX9_howMany 62 = .ok (.aload_n 0, 1) := by decide +kernel
theorem dX9_howMany_63 : decode cX9_howMany 63 = .ok (.getfield 47, 3) := by decide +kernel
theorem dX9_howMany_66 : decode cX9_howMany 66 = .ok (.iconst 0, 1) := by decide +kernel
theorem dX9_howMany_67 : decode cX9_howMany 67 = .ok (.iaload, 1) := by decide +kernel
theorem dX9_howMany_68 : decode cX9_howMany 68 = .ok (.ireturn, 1) := by decide +kernel
theorem dX9_howMany_69 : decode cX9_howMany 69 = .ok (.aload_n 0, 1) := by decide +kernel
theorem dX9_howMany_70 : decode cX9_howMany 70 = .ok (.getfield 47, 3) := by decide +kernel
theorem dX9_howMany_73 : decode cX9_howMany 73 = .ok (.iconst 1, 1) := by decide +kernel
theorem dX9_howMany_74 : decode cX9_howMany 74 = .ok (.iaload, 1) := by decide +kernel
theorem dX9_howMany_75 : decode cX9_howMany 75 = .ok (.ireturn, 1) := by decide +kernel
theorem dX9_howMany_76 : decode cX9_howMany 76 = .ok (.aload_n 0, 1) := by decide +kernel
theorem dX9_howMany_77 : decode cX9_howMany 77 = .ok (.getfield 50, 3) := by decide +kernel
theorem dX9_howMany_80 : decode cX9_howMany 80 = .ok (.iconst 0, 1) := by decide +kernel
theorem dX9_howMany_81 : decode cX9_howMany 81 = .ok (.iaload, 1) := by decide +kernel
theorem dX9_howMany_82 : decode cX9_howMany 82 = .ok (.ireturn, 1) := by decide +kernel
theorem dX9_howMany_83 : decode cX9_howMany 83 = .ok (.aload_n 0, 1) := by decide +kernel
theorem dX9_howMany_84 : decode cX9_howMany 84 = .ok (.getfield 50, 3) := by decide +kernel
theorem dX9_howMany_87 : decode cX9_howMany 87 = .ok (.iconst 1, 1) := by decide +kernel
theorem dX9_howMany_88 : decode cX9_howMany 88 = .ok (.iaload, 1) := by decide +kernel
theorem dX9_howMany_89 : decode cX9_howMany 89 = .ok (.ireturn, 1) := by decide +kernel
theorem dX9_howMany_90 : decode cX9_howMany 90 = .ok (.aload_n 0, 1) := by decide +kernel
theorem dX9_howMany_91 : decode cX9_howMany 91 = .ok (.getfield 131, 3) := by decide +kernel
theorem dX9_howMany_94 : decode cX9_howMany 94 = .ok (.ireturn, 1) := by decide +kernel
theorem dX9_howMany_95 : decode cX9_howMany 95 = .ok (.aload_n 0, 1) := by decide +kernel
theorem dX9_howMany_96 : decode cX9_howMany 96 = .ok (.getfield 100, 3) := by decide +kernel
theorem dX9_howMany_99 : decode cX9_howMany 99 = .ok (.ireturn, 1) := by decide +kernel
theorem dX9_howMany_100 : decode cX9_howMany 100 = .ok (.aload_n 0, 1) := by decide +kernel
theorem dX9_howMany_101 : decode cX9_howMany 101 = .ok (.getfield 193, 3) := by decide +kernel
theorem dX9_howMany_104 : decode cX9_howMany 104 = .ok (.ireturn, 1) := by decide +kernel
theorem dX9_howMany_105 : decode cX9_howMany 105 = .ok (.sipush (-1002), 3) := by decide +kernel
theorem dX9_howMany_108 : decode cX9_howMany 108 = .ok (.ireturn, 1) := by decide +kernel
set_option maxRecDepth 20000 in
theorem ggX9_count_X9_howMany : GoodIn wsX9_count wsX9_howMany := goodIn_r _ [5, 6, 7, 8, 9, 10, 11, 12, 13, 14, 15, 16, 17, 18, 19, 20, 21, 22, 23, 24, 25, 26, 27, 28, 29, 30, 31, 32, 33, 34, 35, 36, 37, 38, 39, 40, 41, 42] (by decide +kernel) (by decide +kernel)
set_option maxRecDepth 20000 in
theorem gX9_count_X9_howMany : GoodIn wsX9_count (wsV RX9 226 RX9 yX9_howMany wsX9_howMany) := goodIn_app (goodIn_of _ (by decide +kernel)) ggX9_count_X9_howMany
theorem dX9_count_0 : decode cX9_count 0 = .ok (.aload_n 0, 1) := by decide +kernel
theorem dX9_count_1 : decode cX9_count 1 = .ok (.iload_n 1, 1) := by decide +kernel
theorem dX9_count_2 : decode cX9_count 2 = .ok (.invokevirtual 226, 3) := by decide +kernel
theorem dX9_count_5 : decode cX9_count 5 = .ok (.ireturn, 1) := by decide +kernel
theorem dX9_mix_0 : decode cX9_mix 0 = .ok (.aload_n 0, 1) := by decide +kernel
theorem dX9_mix_1 : decode cX9_mix 1 = .ok (.ldc2_w 229, 3) := by decide +kernel
theorem dX9_mix_4 : decode cX9_mix 4 = .ok (.aload_n 0, 1) := by decide +kernel
theorem dX9_mix_5 : decode cX9_mix 5 = .ok (.getfield 231, 3) := by decide +kernel
theorem dX9_mix_8 : decode cX9_mix 8 = .ok (.lmul, 1) := by decide +kernel
theorem dX9_mix_9 : decode cX9_mix 9 = .ok (.lload_n 1, 1) := by decide +kernel
theorem dX9_mix_10 : decode cX9_mix 10 = .ok (.ladd, 1) := by decide +kernel
theorem dX9_mix_11 : decode cX9_mix 11 = .ok (.putfield 231, 3) := by decide +kernel
theorem dX9_mix_14 : decode cX9_mix 14 = .ok (.return_, 1) := by decide +kernel
set_option maxRecDepth 20000 in
theorem ggX9_mixEnd_X9_of : GoodIn wsX9_mixEnd wsX9_of := goodIn_r _ [10, 11, 18, 19, 20, 21, 22, 23, 24, 25, 26, 27, 28, 29, 30, 31, 32, 33, 34, 35, 36, 37, 38, 39, 40, 41, 42, 43, 44, 45, 46, 47] (by decide +kernel) (by decide +kernel)
set_option maxRecDepth 20000 in
theorem gX9_mixEnd_X9_of : GoodIn wsX9_mixEnd (wsV RX9 106 RX9 yX9_of wsX9_of) := goodIn_app (goodIn_of _ (by decide +kernel)) ggX9_mixEnd_X9_of
set_option maxRecDepth 20000 in
theorem ggX9_mixEnd_X9_mix : GoodIn wsX9_mixEnd wsX9_mix := goodIn_r _ [15, 16, 17, 18, 19, 20, 21, 22, 23, 24, 25, 26, 27, 28, 29, 30, 31, 32, 33, 34, 35, 36, 37, 38, 39, 40, 41, 42, 43, 44, 45, 46, 47] (by decide +kernel) (by decide +kernel)
set_option maxRecDepth 20000 in
theorem gX9_mixEnd_X9_mix : GoodIn wsX9_mixEnd (wsV RX9 235 RX9 yX9_mix wsX9_mix) := goodIn_app (goodIn_of _ (by decide +kernel)) ggX9_mixEnd_X9_mix
theorem dX9_mixEnd_0 : decode cX9_mixEnd 0 = .ok (.iconst 0, 1) := by decide +kernel
theorem dX9_mixEnd_1 : decode cX9_mixEnd 1 = .ok (.istore_n 2, 1) := by decide +kernel
theorem dX9_mixEnd_2 : decode cX9_mixEnd 2 = .ok (.iload_n 2, 1) := by decide +kernel
theorem dX9_mixEnd_3 : decode cX9_mixEnd 3 = .ok (.bipush 16, 2) := by decide +kernel
theorem dX9_mixEnd_5 : decode cX9_mixEnd 5 = .ok (.if_icmp .ge 20, 3) := by decide +kernel
theorem dX9_mixEnd_8 : decode cX9_mixEnd 8 = .ok (.aload_n 0, 1) := by decide +kernel
theorem dX9_mixEnd_9 : decode cX9_mixEnd 9 = .ok (.aload_n 0, 1) := by decide +kernel
theorem dX9_mixEnd_10 : decode cX9_mixEnd 10 = .ok (.iload_n 1, 1) := by decide +kernel
theorem dX9_mixEnd_11 : decode cX9_mixEnd 11 = .ok (.iload_n 2, 1) := by decide +kernel
theorem dX9_mixEnd_12 : decode cX9_mixEnd 12 = .ok (.invokevirtual 106, 3) := by decide +kernel
theorem dX9_mixEnd_15 : decode cX9_mixEnd 15 = .ok (.i2l, 1) := by decide +kernel
theorem dX9_mixEnd_16 : decode cX9_mixEnd 16 = .ok (.invokevirtual 235, 3) := by decide +kernel
theorem dX9_mixEnd_19 : decode cX9_mixEnd 19 = .ok (.iinc 2 1, 3) := by decide +kernel
theorem dX9_mixEnd_22 : decode cX9_mixEnd 22 = .ok (.goto (-20), 3) := by decide +kernel
theorem dX9_mixEnd_25 : decode cX9_mixEnd 25 = .ok (.iconst 0, 1) := by decide +kernel
theorem dX9_mixEnd_26 : decode cX9_mixEnd 26 = .ok (.istore_n 2, 1) := by decide +kernel
theorem dX9_mixEnd_27 : decode cX9_mixEnd 27 = .ok (.iload_n 2, 1) := by decide +kernel
theorem dX9_mixEnd_28 : decode cX9_mixEnd 28 = .ok (.bipush 8, 2) := by decide +kernel
theorem dX9_mixEnd_30 : decode cX9_mixEnd 30 = .ok (.if_icmp .ge 25, 3) := by decide +kernel
theorem dX9_mixEnd_33 : decode cX9_mixEnd 33 = .ok (.aload_n 0, 1) := by decide +kernel
theorem dX9_mixEnd_34 : decode cX9_mixEnd 34 = .ok (.aload_n 0, 1) := by decide +kernel
theorem dX9_mixEnd_35 : decode cX9_mixEnd 35 = .ok (.getfield 13, 3) := by decide +kernel
theorem dX9_mixEnd_38 : decode cX9_mixEnd 38 = .ok (.bipush 8, 2) := by decide +kernel
theorem dX9_mixEnd_40 : decode cX9_mixEnd 40 = .ok (.iload_n 1, 1) := by decide +kernel
theorem dX9_mixEnd_41 : decode cX9_mixEnd 41 = .ok (.imul, 1) := by decide +kernel
theorem dX9_mixEnd_42 : decode cX9_mixEnd 42 = .ok (.iload_n 2, 1) := by decide +kernel
theorem dX9_mixEnd_43 : decode cX9_mixEnd 43 = .ok (.iadd, 1) := by decide +kernel
theorem dX9_mixEnd_44 : decode cX9_mixEnd 44 = .ok (.iaload, 1) := by decide +kernel
theorem dX9_mixEnd_45 : decode cX9_mixEnd 45 = .ok (.i2l, 1) := by decide +kernel
theorem dX9_mixEnd_46 : decode cX9_mixEnd 46 = .ok (.invokevirtual 235, 3) := by decide +kernel
theorem dX9_mixEnd_49 : decode cX9_mixEnd 49 = .ok (.iinc 2 1, 3) := by decide +kernel
theorem dX9_mixEnd_52 : decode cX9_mixEnd 52 = .ok (.goto (-25), 3) := by decide +kernel
theorem dX9_mixEnd_55 : decode cX9_mixEnd 55 = .ok (.iconst 0, 1) := by decide +kernel
theorem dX9_mixEnd_56 : decode cX9_mixEnd 56 = .ok (.istore_n 2, 1) := by decide +kernel
theorem dX9_mixEnd_57 : decode cX9_mixEnd 57 = .ok (.iload_n 2, 1) := by decide +kernel
theorem dX9_mixEnd_58 : decode cX9_mixEnd 58 = .ok (.iconst 4, 1) := by decide +kernel
theorem dX9_mixEnd_59 : decode cX9_mixEnd 59 = .ok (.if_icmp .ge 24, 3) := by decide +kernel
theorem dX9_mixEnd_62 : decode cX9_mixEnd 62 = .ok (.aload_n 0, 1) := by decide +kernel
theorem dX9_mixEnd_63 : decode cX9_mixEnd 63 = .ok (.aload_n 0, 1) := by decide +kernel
theorem dX9_mixEnd_64 : decode cX9_mixEnd 64 = .ok (.getfield 16, 3) := by decide +kernel
theorem dX9_mixEnd_67 : decode cX9_mixEnd 67 = .ok (.iconst 4, 1) := by decide +kernel
theorem dX9_mixEnd_68 : decode cX9_mixEnd 68 = .ok (.iload_n 1, 1) := by decide +kernel
theorem dX9_mixEnd_69 : decode cX9_mixEnd 69 = .ok (.imul, 1) := by decide +kernel
theorem dX9_mixEnd_70 : decode cX9_mixEnd 70 = .ok (.iload_n 2, 1) := by decide +kernel
theorem dX9_mixEnd_71 : decode cX9_mixEnd 71 = .ok (.iadd, 1) := by decide +kernel
theorem dX9_mixEnd_72 : decode cX9_mixEnd 72 = .ok (.iaload, 1) := by decide +kernel
theorem dX9_mixEnd_73 : decode cX9_mixEnd 73 = .ok (.i2l, 1) := by decide +kernel
theorem dX9_mixEnd_74 : decode cX9_mixEnd 74 = .ok (.invokevirtual 235, 3) := by decide +kernel
theorem dX9_mixEnd_77 : decode cX9_mixEnd 77 = .ok (.iinc 2 1, 3) := by decide +kernel
theorem dX9_mixEnd_80 : decode cX9_mixEnd 80 = .ok (.goto (-23), 3) := by decide +kernel
theorem dX9_mixEnd_83 : decode cX9_mixEnd 83 = .ok (.iconst 0, 1) := by decide +kernel
theorem dX9_mixEnd_84 : decode cX9_mixEnd 84 = .ok (.istore_n 2, 1) := by decide +kernel
theorem dX9_mixEnd_85 : decode cX9_mixEnd 85 = .ok (.iload_n 2, 1) := by decide +kernel
theorem dX9_mixEnd_86 : decode cX9_mixEnd 86 = .ok (.iconst 4, 1) := by decide +kernel
theorem dX9_mixEnd_87 : decode cX9_mixEnd 87 = .ok (.if_icmp .ge 24, 3) := by decide +kernel
theorem dX9_mixEnd_90 : decode cX9_mixEnd 90 = .ok (.aload_n 0, 1) := by decide +kernel
theorem dX9_mixEnd_91 : decode cX9_mixEnd 91 = .ok (.aload_n 0, 1) := by decide +kernel
theorem dX9_mixEnd_92 : decode cX9_mixEnd 92 = .ok (.getfield 19, 3) := by decide +kernel
theorem dX9_mixEnd_95 : decode cX9_mixEnd 95 = .ok (.iconst 4, 1) := by decide +kernel
theorem dX9_mixEnd_96 : decode cX9_mixEnd 96 = .ok (.iload_n 1, 1) := by decide +kernel
theorem dX9_mixEnd_97 : decode cX9_mixEnd 97 = .ok (.imul, 1) := by decide +kernel
theorem dX9_mixEnd_98 : decode cX9_mixEnd 98 = .ok (.iload_n 2, 1) := by decide +kernel
theorem dX9_mixEnd_99 : decode cX9_mixEnd 99 = .ok (.iadd, 1) := by decide +kernel
theorem dX9_mixEnd_100 : decode cX9_mixEnd 100 = .ok (.iaload, 1) := by decide +kernel
theorem dX9_mixEnd_101 : decode cX9_mixEnd 101 = .ok (.i2l, 1) := by decide +kernel
theorem dX9_mixEnd_102 : decode cX9_mixEnd 102 = .ok (.invokevirtual 235, 3) := by decide +kernel
theorem dX9_mixEnd_105 : decode cX9_mixEnd 105 = .ok (.iinc 2 1, 3) := by decide +kernel
theorem dX9_mixEnd_108 : decode cX9_mixEnd 108 = .ok (.goto (-23), 3) := by decide +kernel
theorem dX9_mixEnd_111 : decode cX9_mixEnd 111 = .ok (.iconst 0, 1) := by decide +kernel
theorem dX9_mixEnd_112 : decode cX9_mixEnd 112 = .ok (.istore_n 2, 1) := by decide +kernel
theorem dX9_mixEnd_113 : decode cX9_mixEnd 113 = .ok (.iload_n 2, 1) := by decide +kernel
theorem dX9_mixEnd_114 : decode cX9_mixEnd 114 = .ok (.iconst 5, 1) := by decide +kernel
theorem dX9_mixEnd_115 : decode cX9_mixEnd 115 = .ok (.if_icmp .ge 24, 3) := by decide +kernel
theorem dX9_mixEnd_118 : decode cX9_mixEnd 118 = .ok (.aload_n 0, 1) := by decide +kernel
theorem dX9_mixEnd_119 : decode cX9_mixEnd 119 = .ok (.aload_n 0, 1) := by decide +kernel
theorem dX9_mixEnd_120 : decode cX9_mixEnd 120 = .ok (.getfield 28, 3) := by decide +kernel
theorem dX9_mixEnd_123 : decode cX9_mixEnd 123 = .ok (.iconst 5, 1) := by decide +kernel
theorem dX9_mixEnd_124 : decode cX9_mixEnd 124 = .ok (.iload_n 1, 1) := by decide +kernel
theorem dX9_mixEnd_125 : decode cX9_mixEnd 125 = .ok (.imul, 1) := by decide +kernel
theorem dX9_mixEnd_126 : decode cX9_mixEnd 126 = .ok (.iload_n 2, 1) := by decide +kernel
theorem dX9_mixEnd_127 : decode cX9_mixEnd 127 = .ok (.iadd, 1) := by decide +kernel
theorem dX9_mixEnd_128 : decode cX9_mixEnd 128 = .ok (.iaload, 1) := by decide +kernel
theorem dX9_mixEnd_129 : decode cX9_mixEnd 129 = .ok (.i2l, 1) := by decide +kernel
theorem dX9_mixEnd_130 : decode cX9_mixEnd 130 = .ok (.invokevirtual 235, 3) := by decide +kernel
theorem dX9_mixEnd_133 : decode cX9_mixEnd 133 = .ok (.iinc 2 1, 3) := by decide +kernel
theorem dX9_mixEnd_136 : decode cX9_mixEnd 136 = .ok (.goto (-23), 3) := by decide +kernel
theorem dX9_mixEnd_139 : decode cX9_mixEnd 139 = .ok (.iconst 0, 1) := by decide +kernel
theorem dX9_mixEnd_140 : decode cX9_mixEnd 140 = .ok (.istore_n 2, 1) := by decide +kernel
theorem dX9_mixEnd_141 : decode cX9_mixEnd 141 = .ok (.iload_n 2, 1) := by decide +kernel
theorem dX9_mixEnd_142 : decode cX9_mixEnd 142 = .ok (.aload_n 0, 1) := by decide +kernel
theorem dX9_mixEnd_143 : decode cX9_mixEnd 143 = .ok (.iload_n 1, 1) := by decide +kernel
theorem dX9_mixEnd_144 : decode cX9_mixEnd 144 = .ok (.bipush 9, 2) := by decide +kernel
theorem dX9_mixEnd_146 : decode cX9_mixEnd 146 = .ok (.invokevirtual 106, 3) := by decide +kernel
theorem dX9_mixEnd_149 : decode cX9_mixEnd 149 = .ok (.if_icmp .ge 26, 3) := by decide +kernel
theorem dX9_mixEnd_152 : decode cX9_mixEnd 152 = .ok (.aload_n 0, 1) := by decide +kernel
theorem dX9_mixEnd_153 : decode cX9_mixEnd 153 = .ok (.aload_n 0, 1) := by decide +kernel
theorem dX9_mixEnd_154 : decode cX9_mixEnd 154 = .ok (.getfield 25, 3) := by decide +kernel
theorem dX9_mixEnd_157 : decode cX9_mixEnd 157 = .ok (.sipush 200, 3) := by decide +kernel
theorem dX9_mixEnd_160 : decode cX9_mixEnd 160 = .ok (.iload_n 1, 1) := by decide +kernel
theorem dX9_mixEnd_161 : decode cX9_mixEnd 161 = .ok (.imul, 1) := by decide +kernel
theorem dX9_mixEnd_162 : decode cX9_mixEnd 162 = .ok (.iload_n 2, 1) := by decide +kernel
theorem dX9_mixEnd_163 : decode cX9_mixEnd 163 = .ok (.iadd, 1) := by decide +kernel
theorem dX9_mixEnd_164 : decode cX9_mixEnd 164 = .ok (.iaload, 1) := by decide +kernel
theorem dX9_mixEnd_165 : decode cX9_mixEnd 165 = .ok (.i2l, 1) := by decide +kernel
theorem dX9_mixEnd_166 : decode cX9_mixEnd 166 = .ok (.invokevirtual 235, 3) := by decide +kernel
theorem dX9_mixEnd_169 : decode cX9_mixEnd 169 = .ok (.iinc 2 1, 3) := by decide +kernel
theorem dX9_mixEnd_172 : decode cX9_mixEnd 172 = .ok (.goto (-31), 3) := by decide +kernel
theorem dX9_mixEnd_175 : decode cX9_mixEnd 175 = .ok (.return_, 1) := by decide +kernel
set_option maxRecDepth 20000 in
theorem ggX9_digest_X9_mixEnd : GoodIn wsX9_digest wsX9_mixEnd := goodIn_r _ [9, 10, 11, 12, 13, 14, 15, 16, 17, 8, 18, 19, 20, 21, 22, 23, 24, 2, 50, 51, 52, 53, 54, 55, 56, 57, 58, 59, 60, 61, 62, 63, 64, 65, 66, 67, 68, 69, 70, 71, 72, 73, 74, 75, 76, 77, 78, 79] (by decide +kernel) (by decide +kernel)
set_option maxRecDepth 20000 in
theorem gX9_digest_X9_mixEnd : GoodIn wsX9_digest (wsV RX9 241 RX9 yX9_mixEnd wsX9_mixEnd) := goodIn_app (goodIn_of _ (by decide +kernel)) ggX9_digest_X9_mixEnd
set_option maxRecDepth 20000 in
theorem ggX9_digest_X9_within : GoodIn wsX9_digest wsX9_within := goodIn_r _ [27] (by decide +kernel) (by decide +kernel)
set_option maxRecDepth 20000 in
theorem gX9_digest_X9_within : GoodIn wsX9_digest (va_wsS RX9 65 yX9_within wsX9_within) := goodIn_app (goodIn_of _ (by decide +kernel)) ggX9_digest_X9_within
set_option maxRecDepth 20000 in
theorem ggX9_digest_X9_aboutNow : GoodIn wsX9_digest wsX9_aboutNow := goodIn_r _ [31, 32, 33, 34, 35, 36, 37, 8, 38, 39, 50, 51, 52, 53, 54, 55, 56, 57, 58, 59, 60, 61, 62, 63, 64, 65, 66, 67, 68, 69, 70, 71, 72, 73, 74, 75, 76, 77, 78, 79] (by decide +kernel) (by decide +kernel)
set_option maxRecDepth 20000 in
theorem gX9_digest_X9_aboutNow : GoodIn wsX9_digest (wsV RX9 223 RX9 yX9_aboutNow wsX9_aboutNow) := goodIn_app (goodIn_of _ (by decide +kernel)) ggX9_digest_X9_aboutNow
set_option maxRecDepth 20000 in
theorem ggX9_digest_X9_mix : GoodIn wsX9_digest wsX9_mix := goodIn_r _ [23, 24, 2, 50, 51, 52, 53, 54, 55, 56, 57, 58, 59, 60, 61, 62, 63, 64, 65, 66, 67, 68, 69, 70, 71, 72, 73, 74, 75, 76, 77, 78, 79] (by decide +kernel) (by decide +kernel)
set_option maxRecDepth 20000 in
theorem gX9_digest_X9_mix : GoodIn wsX9_digest (wsV RX9 235 RX9 yX9_mix wsX9_mix) := goodIn_app (goodIn_of _ (by decide +kernel)) ggX9_digest_X9_mix
set_option maxRecDepth 20000 in
theorem ggX9_digest_X9_howMany : GoodIn wsX9_digest wsX9_howMany := goodIn_r _ [43, 3, 44, 45, 46, 47, 48, 49, 50, 51, 52, 53, 54, 55, 56, 57, 58, 59, 60, 61, 62, 63, 64, 65, 66, 67, 68, 69, 70, 71, 72, 73, 74, 75, 76, 77, 78, 79] (by decide +kernel) (by decide +kernel)
set_option maxRecDepth 20000 in
theorem gX9_digest_X9_howMany : GoodIn wsX9_digest (wsV RX9 226 RX9 yX9_howMany wsX9_howMany) := goodIn_app (goodIn_of _ (by decide +kernel)) ggX9_digest_X9_howMany
theorem dX9_digest_0 : decode cX9_digest 0 = .ok (.aload_n 0, 1) := by decide +kernel
theorem dX9_digest_1 : decode cX9_digest 1 = .ok (.ldc2_w 239, 3) := by decide +kernel
theorem dX9_digest_4 : decode cX9_digest 4 = .ok (.putfield 231, 3) := by decide +kernel
theorem dX9_digest_7 : decode cX9_digest 7 = .ok (.aload_n 0, 1) := by decide +kernel
theorem dX9_digest_8 : decode cX9_digest 8 = .ok (.iconst 0, 1) := by decide +kernel
theorem dX9_digest_9 : decode cX9_digest 9 = .ok (.invokevirtual 241, 3) := by decide +kernel
theorem dX9_digest_12 : decode cX9_digest 12 = .ok (.aload_n 0, 1) := by decide +kernel
theorem dX9_digest_13 : decode cX9_digest 13 = .ok (.iconst 1, 1) := by decide +kernel
theorem dX9_digest_14 : decode cX9_digest 14 = .ok (.invokevirtual 241, 3) := by decide +kernel
theorem dX9_digest_17 : decode cX9_digest 17 = .ok (.iconst 0, 1) := by decide +kernel
theorem dX9_digest_18 : decode cX9_digest 18 = .ok (.istore_n 1, 1) := by decide +kernel
theorem dX9_digest_19 : decode cX9_digest 19 = .ok (.iload_n 1, 1) := by decide +kernel
theorem dX9_digest_20 : decode cX9_digest 20 = .ok (.bipush 28, 2) := by decide +kernel
theorem dX9_digest_22 : decode cX9_digest 22 = .ok (.if_icmp .ge 50, 3) := by decide +kernel
theorem dX9_digest_25 : decode cX9_digest 25 = .ok (.iload_n 1, 1) := by decide +kernel
theorem dX9_digest_26 : decode cX9_digest 26 = .ok (.iconst 0, 1) := by decide +kernel
theorem dX9_digest_27 : decode cX9_digest 27 = .ok (.iconst 3, 1) := by decide +kernel
theorem dX9_digest_28 : decode cX9_digest 28 = .ok (.invokestatic 65, 3) := by decide +kernel
theorem dX9_digest_31 : decode cX9_digest 31 = .ok (.ifCond .ne 25, 3) := by decide +kernel
theorem dX9_digest_34 : decode cX9_digest 34 = .ok (.iload_n 1, 1) := by decide +kernel
theorem dX9_digest_35 : decode cX9_digest 35 = .ok (.bipush 10, 2) := by decide +kernel
theorem dX9_digest_37 : decode cX9_digest 37 = .ok (.bipush 17, 2) := by decide +kernel
theorem dX9_digest_39 : decode cX9_digest 39 = .ok (.invokestatic 65, 3) := by decide +kernel
theorem dX9_digest_42 : decode cX9_digest 42 = .ok (.ifCond .ne 14, 3) := by decide +kernel
theorem dX9_digest_45 : decode cX9_digest 45 = .ok (.iload_n 1, 1) := by decide +kernel
theorem dX9_digest_46 : decode cX9_digest 46 = .ok (.bipush 20, 2) := by decide +kernel
theorem dX9_digest_48 : decode cX9_digest 48 = .ok (.bipush 27, 2) := by decide +kernel
theorem dX9_digest_50 : decode cX9_digest 50 = .ok (.invokestatic 65, 3) := by decide +kernel
theorem dX9_digest_53 : decode cX9_digest 53 = .ok (.ifCond .eq 13, 3) := by decide +kernel
theorem dX9_digest_56 : decode cX9_digest 56 = .ok (.aload_n 0, 1) := by decide +kernel
theorem dX9_digest_57 : decode cX9_digest 57 = .ok (.aload_n 0, 1) := by decide +kernel
theorem dX9_digest_58 : decode cX9_digest 58 = .ok (.iload_n 1, 1) := by decide +kernel
theorem dX9_digest_59 : decode cX9_digest 59 = .ok (.invokevirtual 223, 3) := by decide +kernel
theorem dX9_digest_62 : decode cX9_digest 62 = .ok (.i2l, 1) := by decide +kernel
theorem dX9_digest_63 : decode cX9_digest 63 = .ok (.invokevirtual 235, 3) := by decide +kernel
theorem dX9_digest_66 : decode cX9_digest 66 = .ok (.iinc 1 1, 3) := by decide +kernel
theorem dX9_digest_69 : decode cX9_digest 69 = .ok (.goto (-50), 3) := by decide +kernel
theorem dX9_digest_72 : decode cX9_digest 72 = .ok (.iconst 0, 1) := by decide +kernel
theorem dX9_digest_73 : decode cX9_digest 73 = .ok (.istore_n 1, 1) := by decide +kernel
theorem dX9_digest_74 : decode cX9_digest 74 = .ok (.iload_n 1, 1) := by decide +kernel
theorem dX9_digest_75 : decode cX9_digest 75 = .ok (.aload_n 0, 1) := by decide +kernel
theorem dX9_digest_76 : decode cX9_digest 76 = .ok (.getfield 69, 3) := by decide +kernel
theorem dX9_digest_79 : decode cX9_digest 79 = .ok (.if_icmp .ge 20, 3) := by decide +kernel
theorem dX9_digest_82 : decode cX9_digest 82 = .ok (.aload_n 0, 1) := by decide +kernel
theorem dX9_digest_83 : decode cX9_digest 83 = .ok (.aload_n 0, 1) := by decide +kernel
theorem dX9_digest_84 : decode cX9_digest 84 = .ok (.getfield 53, 3) := by decide +kernel
theorem dX9_digest_87 : decode cX9_digest 87 = .ok (.iload_n 1, 1) := by decide +kernel
theorem dX9_digest_88 : decode cX9_digest 88 = .ok (.iaload, 1) := by decide +kernel
theorem dX9_digest_89 : decode cX9_digest 89 = .ok (.i2l, 1) := by decide +kernel
theorem dX9_digest_90 : decode cX9_digest 90 = .ok (.invokevirtual 235, 3) := by decide +kernel
theorem dX9_digest_93 : decode cX9_digest 93 = .ok (.iinc 1 1, 3) := by decide +kernel
theorem dX9_digest_96 : decode cX9_digest 96 = .ok (.goto (-22), 3) := by decide +kernel
theorem dX9_digest_99 : decode cX9_digest 99 = .ok (.iconst 0, 1) := by decide +kernel
theorem dX9_digest_100 : decode cX9_digest 100 = .ok (.istore_n 1, 1) := by decide +kernel
theorem dX9_digest_101 : decode cX9_digest 101 = .ok (.iload_n 1, 1) := by decide +kernel
theorem dX9_digest_102 : decode cX9_digest 102 = .ok (.bipush 9, 2) := by decide +kernel
theorem dX9_digest_104 : decode cX9_digest 104 = .ok (.if_icmp .ge 19, 3) := by decide +kernel
theorem dX9_digest_107 : decode cX9_digest 107 = .ok (.aload_n 0, 1) := by decide +kernel
theorem dX9_digest_108 : decode cX9_digest 108 = .ok (.aload_n 0, 1) := by decide +kernel
theorem dX9_digest_109 : decode cX9_digest 109 = .ok (.iload_n 1, 1) := by decide +kernel
theorem dX9_digest_110 : decode cX9_digest 110 = .ok (.invokevirtual 226, 3) := by decide +kernel
theorem dX9_digest_113 : decode cX9_digest 113 = .ok (.i2l, 1) := by decide +kernel
theorem dX9_digest_114 : decode cX9_digest 114 = .ok (.invokevirtual 235, 3) := by decide +kernel
theorem dX9_digest_117 : decode cX9_digest 117 = .ok (.iinc 1 1, 3) := by decide +kernel
theorem dX9_digest_120 : decode cX9_digest 120 = .ok (.goto (-19), 3) := by decide +kernel
theorem dX9_digest_123 : decode cX9_digest 123 = .ok (.aload_n 0, 1) := by decide +kernel
theorem dX9_digest_124 : decode cX9_digest 124 = .ok (.getfield 231, 3) := by decide +kernel
theorem dX9_digest_127 : decode cX9_digest 127 = .ok (.lreturn, 1) := by decide +kernel
theorem dJ6_bitCount_0f7a4_0 : decode cJ6_bitCount_0f7a4 0 = .ok (.iload_n 0, 1) := by decide +kernel
theorem dJ6_bitCount_0f7a4_1 : decode cJ6_bitCount_0f7a4 1 = .ok (.iload_n 0, 1) := by decide +kernel
theorem dJ6_bitCount_0f7a4_2 : decode cJ6_bitCount_0f7a4 2 = .ok (.iconst 1, 1) := by decide +kernel
theorem dJ6_bitCount_0f7a4_3 : decode cJ6_bitCount_0f7a4 3 = .ok (.iushr, 1) := by decide +kernel
theorem dJ6_bitCount_0f7a4_4 : decode cJ6_bitCount_0f7a4 4 = .ok (.ldc_w 265, 3) := by decide +kernel
theorem dJ6_bitCount_0f7a4_7 : decode cJ6_bitCount_0f7a4 7 = .ok (.iand, 1) := by decide +kernel
theorem dJ6_bitCount_0f7a4_8 : decode cJ6_bitCount_0f7a4 8 = .ok (.isub, 1) := by decide +kernel
theorem dJ6_bitCount_0f7a4_9 : decode cJ6_bitCount_0f7a4 9 = .ok (.istore_n 0, 1) := by decide +kernel
theorem dJ6_bitCount_0f7a4_10 : decode cJ6_bitCount_0f7a4 10 = .ok (.iload_n 0, 1) := by decide +kernel
theorem dJ6_bitCount_0f7a4_11 : decode cJ6_bitCount_0f7a4 11 = .ok (.ldc_w 266, 3) := by decide +kernel
theorem dJ6_bitCount_0f7a4_14 : decode cJ6_bitCount_0f7a4 14 = .ok (.iand, 1) := by decide +kernel
theorem dJ6_bitCount_0f7a4_15 : decode cJ6_bitCount_0f7a4 15 = .ok (.iload_n 0, 1) := by decide +kernel
theorem dJ6_bitCount_0f7a4_16 : decode cJ6_bitCount_0f7a4 16 = .ok (.iconst 2, 1) := by decide +kernel
theorem dJ6_bitCount_0f7a4_17 : decode cJ6_bitCount_0f7a4 17 = .ok (.iushr, 1) := by decide +kernel
theorem dJ6_bitCount_0f7a4_18 : decode cJ6_bitCount_0f7a4 18 = .ok (.ldc_w 266, 3) := by decide +kernel
theorem dJ6_bitCount_0f7a4_21 : decode cJ6_bitCount_0f7a4 21 = .ok (.iand, 1) := by decide +kernel
theorem dJ6_bitCount_0f7a4_22 : decode cJ6_bitCount_0f7a4 22 = .ok (.iadd, 1) := by decide +kernel
theorem dJ6_bitCount_0f7a4_23 : decode cJ6_bitCount_0f7a4 23 = .ok (.istore_n 0, 1) := by decide +kernel
theorem dJ6_bitCount_0f7a4_24 : decode cJ6_bitCount_0f7a4 24 = .ok (.iload_n 0, 1) := by decide +kernel
theorem dJ6_bitCount_0f7a4_25 : decode cJ6_bitCount_0f7a4 25 = .ok (.iload_n 0, 1) := by decide +kernel
theorem dJ6_bitCount_0f7a4_26 : decode cJ6_bitCount_0f7a4 26 = .ok (.iconst 4, 1) := by decide +kernel
theorem dJ6_bitCount_0f7a4_27 : decode cJ6_bitCount_0f7a4 27 = .ok (.iushr, 1) := by decide +kernel
theorem dJ6_bitCount_0f7a4_28 : decode cJ6_bitCount_0f7a4 28 = .ok (.iadd, 1) := by decide +kernel
theorem dJ6_bitCount_0f7a4_29 : decode cJ6_bitCount_0f7a4 29 = .ok (.ldc_w 267, 3) := by decide +kernel
theorem dJ6_bitCount_0f7a4_32 : decode cJ6_bitCount_0f7a4 32 = .ok (.iand, 1) := by decide +kernel
theorem dJ6_bitCount_0f7a4_33 : decode cJ6_bitCount_0f7a4 33 = .ok (.istore_n 0, 1) := by decide +kernel
theorem dJ6_bitCount_0f7a4_34 : decode cJ6_bitCount_0f7a4 34 = .ok (.iload_n 0, 1) := by decide +kernel
theorem dJ6_bitCount_0f7a4_35 : decode cJ6_bitCount_0f7a4 35 = .ok (.iload_n 0, 1) := by decide +kernel
theorem dJ6_bitCount_0f7a4_36 : decode cJ6_bitCount_0f7a4 36 = .ok (.bipush 8, 2) := by decide +kernel
theorem dJ6_bitCount_0f7a4_38 : decode cJ6_bitCount_0f7a4 38 = .ok (.iushr, 1) := by decide +kernel
theorem dJ6_bitCount_0f7a4_39 : decode cJ6_bitCount_0f7a4 39 = .ok (.iadd, 1) := by decide +kernel
theorem dJ6_bitCount_0f7a4_40 : decode cJ6_bitCount_0f7a4 40 = .ok (.istore_n 0, 1) := by decide +kernel
theorem dJ6_bitCount_0f7a4_41 : decode cJ6_bitCount_0f7a4 41 = .ok (.iload_n 0, 1) := by decide +kernel
theorem dJ6_bitCount_0f7a4_42 : decode cJ6_bitCount_0f7a4 42 = .ok (.iload_n 0, 1) := by decide +kernel
theorem dJ6_bitCount_0f7a4_43 : decode cJ6_bitCount_0f7a4 43 = .ok (.bipush 16, 2) := by decide +kernel
theorem dJ6_bitCount_0f7a4_45 : decode cJ6_bitCount_0f7a4 45 = .ok (.iushr, 1) := by decide +kernel
theorem dJ6_bitCount_0f7a4_46 : decode cJ6_bitCount_0f7a4 46 = .ok (.iadd, 1) := by decide +kernel
theorem dJ6_bitCount_0f7a4_47 : decode cJ6_bitCount_0f7a4 47 = .ok (.istore_n 0, 1) := by decide +kernel
theorem dJ6_bitCount_0f7a4_48 : decode cJ6_bitCount_0f7a4 48 = .ok (.iload_n 0, 1) := by decide +kernel
theorem dJ6_bitCount_0f7a4_49 : decode cJ6_bitCount_0f7a4 49 = .ok (.bipush 63, 2) := by decide +kernel
theorem dJ6_bitCount_0f7a4_51 : decode cJ6_bitCount_0f7a4 51 = .ok (.iand, 1) := by decide +kernel
theorem dJ6_bitCount_0f7a4_52 : decode cJ6_bitCount_0f7a4 52 = .ok (.ireturn, 1) := by decide +kernel
theorem dJ9_abs_0f7a4_0 : decode cJ9_abs_0f7a4 0 = .ok (.iload_n 0, 1) := by decide +kernel
theorem dJ9_abs_0f7a4_1 : decode cJ9_abs_0f7a4 1 = .ok (.ifCond .ge 8, 3) := by decide +kernel
theorem dJ9_abs_0f7a4_4 : decode cJ9_abs_0f7a4 4 = .ok (.iload_n 0, 1) := by decide +kernel
theorem dJ9_abs_0f7a4_5 : decode cJ9_abs_0f7a4 5 = .ok (.ineg, 1) := by decide +kernel
theorem dJ9_abs_0f7a4_6 : decode cJ9_abs_0f7a4 6 = .ok (.goto 4, 3) := by decide +kernel
theorem dJ9_abs_0f7a4_9 : decode cJ9_abs_0f7a4 9 = .ok (.iload_n 0, 1) := by decide +kernel
theorem dJ9_abs_0f7a4_10 : decode cJ9_abs_0f7a4 10 = .ok (.ireturn, 1) := by decide +kernel
theorem dJ9_max_7cf53_0 : decode cJ9_max_7cf53 0 = .ok (.iload_n 0, 1) := by decide +kernel
theorem dJ9_max_7cf53_1 : decode cJ9_max_7cf53 1 = .ok (.iload_n 1, 1) := by decide +kernel
theorem dJ9_max_7cf53_2 : decode cJ9_max_7cf53 2 = .ok (.if_icmp .lt 7, 3) := by decide +kernel
theorem dJ9_max_7cf53_5 : decode cJ9_max_7cf53 5 = .ok (.iload_n 0, 1) := by decide +kernel
theorem dJ9_max_7cf53_6 : decode cJ9_max_7cf53 6 = .ok (.goto 4, 3) := by decide +kernel
theorem dJ9_max_7cf53_9 : decode cJ9_max_7cf53 9 = .ok (.iload_n 1, 1) := by decide +kernel
theorem dJ9_max_7cf53_10 : decode cJ9_max_7cf53 10 = .ok (.ireturn, 1) := by decide +kernel
theorem dJ9_min_7cf53_0 : decode cJ9_min_7cf53 0 = .ok (.iload_n 0, 1) := by decide +kernel
theorem dJ9_min_7cf53_1 : decode cJ9_min_7cf53 1 = .ok (.iload_n 1, 1) := by decide +kernel
theorem dJ9_min_7cf53_2 : decode cJ9_min_7cf53 2 = .ok (.if_icmp .gt 7, 3) := by decide +kernel
theorem dJ9_min_7cf53_5 : decode cJ9_min_7cf53 5 = .ok (.iload_n 0, 1) := by decide +kernel
theorem dJ9_min_7cf53_6 : decode cJ9_min_7cf53 6 = .ok (.goto 4, 3) := by decide +kernel
theorem dJ9_min_7cf53_9 : decode cJ9_min_7cf53 9 = .ok (.iload_n 1, 1) := by decide +kernel
theorem dJ9_min_7cf53_10 : decode cJ9_min_7cf53 10 = .ok (.ireturn, 1) := by decide +kernel

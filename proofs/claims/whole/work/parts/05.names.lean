theorem dX7_init_30 : decode cX7_init 30 = .ok (.bipush 16, 2) := by decide +kernel
theorem dX7_init_32 : decode cX7_init 32 = .ok (.newarray .boolean, 2) := by decide +kernel
theorem dX7_init_34 : decode cX7_init 34 = .ok (.putfield 21, 3) := by decide +kernel
theorem dX7_init_37 : decode cX7_init 37 = .ok (.aload_n 0, 1) := by decide +kernel
theorem dX7_init_38 : decode cX7_init 38 = .ok (.iconst 0, 1) := by decide +kernel
theorem dX7_init_39 : decode cX7_init 39 = .ok (.putfield 25, 3) := by decide +kernel
theorem dX7_init_42 : decode cX7_init 42 = .ok (.aload_n 0, 1) := by decide +kernel
theorem dX7_init_43 : decode cX7_init 43 = .ok (.iconst 0, 1) := by decide +kernel
theorem dX7_init_44 : decode cX7_init 44 = .ok (.putfield 29, 3) := by decide +kernel
theorem dX7_init_47 : decode cX7_init 47 = .ok (.aload_n 0, 1) := by decide +kernel
theorem dX7_init_48 : decode cX7_init 48 = .ok (.iconst 0, 1) := by decide +kernel
theorem dX7_init_49 : decode cX7_init 49 = .ok (.putfield 32, 3) := by decide +kernel
theorem dX7_init_52 : decode cX7_init 52 = .ok (.aload_n 0, 1) := by decide +kernel
theorem dX7_init_53 : decode cX7_init 53 = .ok (.iconst 0, 1) := by decide +kernel
theorem dX7_init_54 : decode cX7_init 54 = .ok (.putfield 35, 3) := by decide +kernel
theorem dX7_init_57 : decode cX7_init 57 = .ok (.iconst 0, 1) := by decide +kernel
theorem dX7_init_58 : decode cX7_init 58 = .ok (.istore_n 1, 1) := by decide +kernel
theorem dX7_init_59 : decode cX7_init 59 = .ok (.iload_n 1, 1) := by decide +kernel
theorem dX7_init_60 : decode cX7_init 60 = .ok (.bipush 8, 2) := by decide +kernel
theorem dX7_init_62 : decode cX7_init 62 = .ok (.if_icmp .ge 17, 3) := by decide +kernel
theorem dX7_init_65 : decode cX7_init 65 = .ok (.aload_n 0, 1) := by decide +kernel
theorem dX7_init_66 : decode cX7_init 66 = .ok (.getfield 11, 3) := by decide +kernel
theorem dX7_init_69 : decode cX7_init 69 = .ok (.iload_n 1, 1) := by decide +kernel
theorem dX7_init_70 : decode cX7_init 70 = .ok (.bipush 8, 2) := by decide +kernel
theorem dX7_init_72 : decode cX7_init 72 = .ok (.iastore, 1) := by decide +kernel
theorem dX7_init_73 : decode cX7_init 73 = .ok (.iinc 1 1, 3) := by decide +kernel
theorem dX7_init_76 : decode cX7_init 76 = .ok (.goto (-17), 3) := by decide +kernel
theorem dX7_init_79 : decode cX7_init 79 = .ok (.return_, 1) := by decide +kernel
theorem dX7_send_0 : decode cX7_send 0 = .ok (.iload_n 1, 1) := by decide +kernel
theorem dX7_send_1 : decode cX7_send 1 = .ok (.bipush 15, 2) := by decide +kernel
theorem dX7_send_3 : decode cX7_send 3 = .ok (.iand, 1) := by decide +kernel
theorem dX7_send_4 : decode cX7_send 4 = .ok (.istore 7, 2) := by decide +kernel
theorem dX7_send_6 : decode cX7_send 6 = .ok (.aload_n 0, 1) := by decide +kernel
theorem dX7_send_7 : decode cX7_send 7 = .ok (.getfield 21, 3) := by decide +kernel
theorem dX7_send_10 : decode cX7_send 10 = .ok (.iload 7, 2) := by decide +kernel
theorem dX7_send_12 : decode cX7_send 12 = .ok (.baload, 1) := by decide +kernel
theorem dX7_send_13 : decode cX7_send 13 = .ok (.ifCond .ne 21, 3) := by decide +kernel
theorem dX7_send_16 : decode cX7_send 16 = .ok (.aload_n 0, 1) := by decide +kernel
theorem dX7_send_17 : decode cX7_send 17 = .ok (.getfield 21, 3) := by decide +kernel
theorem dX7_send_20 : decode cX7_send 20 = .ok (.iload 7, 2) := by decide +kernel
theorem dX7_send_22 : decode cX7_send 22 = .ok (.iconst 1, 1) := by decide +kernel
theorem dX7_send_23 : decode cX7_send 23 = .ok (.bastore, 1) := by decide +kernel
theorem dX7_send_24 : decode cX7_send 24 = .ok (.aload_n 0, 1) := by decide +kernel
theorem dX7_send_25 : decode cX7_send 25 = .ok (.dup, 1) := by decide +kernel
theorem dX7_send_26 : decode cX7_send 26 = .ok (.getfield 35, 3) := by decide +kernel
theorem dX7_send_29 : decode cX7_send 29 = .ok (.iconst 1, 1) := by decide +kernel
theorem dX7_send_30 : decode cX7_send 30 = .ok (.iadd, 1) := by decide +kernel
theorem dX7_send_31 : decode cX7_send 31 = .ok (.putfield 35, 3) := by decide +kernel
theorem dX7_send_34 : decode cX7_send 34 = .ok (.iload 7, 2) := by decide +kernel
theorem dX7_send_36 : decode cX7_send 36 = .ok (.bipush 8, 2) := by decide +kernel
theorem dX7_send_38 : decode cX7_send 38 = .ok (.imul, 1) := by decide +kernel
theorem dX7_send_39 : decode cX7_send 39 = .ok (.istore 8, 2) := by decide +kernel
theorem dX7_send_41 : decode cX7_send 41 = .ok (.aload_n 0, 1) := by decide +kernel
theorem dX7_send_42 : decode cX7_send 42 = .ok (.getfield 18, 3) := by decide +kernel
theorem dX7_send_45 : decode cX7_send 45 = .ok (.iload 8, 2) := by decide +kernel
theorem dX7_send_47 : decode cX7_send 47 = .ok (.iload_n 2, 1) := by decide +kernel
theorem dX7_send_48 : decode cX7_send 48 = .ok (.iastore, 1) := by decide +kernel
theorem dX7_send_49 : decode cX7_send 49 = .ok (.aload_n 0, 1) := by decide +kernel
theorem dX7_send_50 : decode cX7_send 50 = .ok (.getfield 18, 3) := by decide +kernel
theorem dX7_send_53 : decode cX7_send 53 = .ok (.iload 8, 2) := by decide +kernel
theorem dX7_send_55 : decode cX7_send 55 = .ok (.iconst 1, 1) := by decide +kernel
theorem dX7_send_56 : decode cX7_send 56 = .ok (.iadd, 1) := by decide +kernel
theorem dX7_send_57 : decode cX7_send 57 = .ok (.iload_n 3, 1) := by decide +kernel
theorem dX7_send_58 : decode cX7_send 58 = .ok (.iastore, 1) := by decide +kernel
theorem dX7_send_59 : decode cX7_send 59 = .ok (.aload_n 0, 1) := by decide +kernel
theorem dX7_send_60 : decode cX7_send 60 = .ok (.getfield 18, 3) := by decide +kernel
theorem dX7_send_63 : decode cX7_send 63 = .ok (.iload 8, 2) := by decide +kernel
theorem dX7_send_65 : decode cX7_send 65 = .ok (.iconst 2, 1) := by decide +kernel
theorem dX7_send_66 : decode cX7_send 66 = .ok (.iadd, 1) := by decide +kernel
theorem dX7_send_67 : decode cX7_send 67 = .ok (.iload 4, 2) := by decide +kernel
theorem dX7_send_69 : decode cX7_send 69 = .ok (.iastore, 1) := by decide +kernel
theorem dX7_send_70 : decode cX7_send 70 = .ok (.aload_n 0, 1) := by decide +kernel
theorem dX7_send_71 : decode cX7_send 71 = .ok (.getfield 18, 3) := by decide +kernel
theorem dX7_send_74 : decode cX7_send 74 = .ok (.iload 8, 2) := by decide +kernel
theorem dX7_send_76 : decode cX7_send 76 = .ok (.iconst 3, 1) := by decide +kernel
theorem dX7_send_77 : decode cX7_send 77 = .ok (.iadd, 1) := by decide +kernel
theorem dX7_send_78 : decode cX7_send 78 = .ok (.iload 5, 2) := by decide +kernel
theorem dX7_send_80 : decode cX7_send 80 = .ok (.iastore, 1) := by decide +kernel
theorem dX7_send_81 : decode cX7_send 81 = .ok (.aload_n 0, 1) := by decide +kernel
theorem dX7_send_82 : decode cX7_send 82 = .ok (.getfield 18, 3) := by decide +kernel
theorem dX7_send_85 : decode cX7_send 85 = .ok (.iload 8, 2) := by decide +kernel
theorem dX7_send_87 : decode cX7_send 87 = .ok (.iconst 4, 1) := by decide +kernel
theorem dX7_send_88 : decode cX7_send 88 = .ok (.iadd, 1) := by decide +kernel
theorem dX7_send_89 : decode cX7_send 89 = .ok (.iload 6, 2) := by decide +kernel
theorem dX7_send_91 : decode cX7_send 91 = .ok (.iastore, 1) := by decide +kernel
theorem dX7_send_92 : decode cX7_send 92 = .ok (.return_, 1) := by decide +kernel
theorem dX7_enclose_0 : decode cX7_enclose 0 = .ok (.iload_n 2, 1) := by decide +kernel
theorem dX7_enclose_1 : decode cX7_enclose 1 = .ok (.ifCond .lt 25, 3) := by decide +kernel
theorem dX7_enclose_4 : decode cX7_enclose 4 = .ok (.iload_n 2, 1) := by decide +kernel
theorem dX7_enclose_5 : decode cX7_enclose 5 = .ok (.iconst 3, 1) := by decide +kernel
theorem dX7_enclose_6 : decode cX7_enclose 6 = .ok (.if_icmp .ge 20, 3) := by decide +kernel
theorem dX7_enclose_9 : decode cX7_enclose 9 = .ok (.aload_n 0, 1) := by decide +kernel
theorem dX7_enclose_10 : decode cX7_enclose 10 = .ok (.getfield 18, 3) := by decide +kernel
theorem dX7_enclose_13 : decode cX7_enclose 13 = .ok (.iload_n 1, 1) := by decide +kernel
theorem dX7_enclose_14 : decode cX7_enclose 14 = .ok (.bipush 15, 2) := by decide +kernel
theorem dX7_enclose_16 : decode cX7_enclose 16 = .ok (.iand, 1) := by decide +kernel
theorem dX7_enclose_17 : decode cX7_enclose 17 = .ok (.bipush 8, 2) := by decide +kernel
theorem dX7_enclose_19 : decode cX7_enclose 19 = .ok (.imul, 1) := by decide +kernel
theorem dX7_enclose_20 : decode cX7_enclose 20 = .ok (.iconst 5, 1) := by decide +kernel
theorem dX7_enclose_21 : decode cX7_enclose 21 = .ok (.iadd, 1) := by decide +kernel
theorem dX7_enclose_22 : decode cX7_enclose 22 = .ok (.iload_n 2, 1) := by decide +kernel
theorem dX7_enclose_23 : decode cX7_enclose 23 = .ok (.iadd, 1) := by decide +kernel
theorem dX7_enclose_24 : decode cX7_enclose 24 = .ok (.iload_n 3, 1) := by decide +kernel
theorem dX7_enclose_25 : decode cX7_enclose 25 = .ok (.iastore, 1) := by decide +kernel
theorem dX7_enclose_26 : decode cX7_enclose 26 = .ok (.return_, 1) := by decide +kernel
theorem dX7_bring_0 : decode cX7_bring 0 = .ok (.iload_n 1, 1) := by decide +kernel
theorem dX7_bring_1 : decode cX7_bring 1 = .ok (.bipush 15, 2) := by decide +kernel
theorem dX7_bring_3 : decode cX7_bring 3 = .ok (.iand, 1) := by decide +kernel
theorem dX7_bring_4 : decode cX7_bring 4 = .ok (.istore_n 2, 1) := by decide +kernel
theorem dX7_bring_5 : decode cX7_bring 5 = .ok (.iconst 1, 1) := by decide +kernel
theorem dX7_bring_6 : decode cX7_bring 6 = .ok (.istore_n 3, 1) := by decide +kernel
theorem dX7_bring_7 : decode cX7_bring 7 = .ok (.aload_n 0, 1) := by decide +kernel
theorem dX7_bring_8 : decode cX7_bring 8 = .ok (.getfield 21, 3) := by decide +kernel
theorem dX7_bring_11 : decode cX7_bring 11 = .ok (.iload_n 2, 1) := by decide +kernel
theorem dX7_bring_12 : decode cX7_bring 12 = .ok (.baload, 1) := by decide +kernel
theorem dX7_bring_13 : decode cX7_bring 13 = .ok (.ifCond .eq 69, 3) := by decide +kernel
theorem dX7_bring_16 : decode cX7_bring 16 = .ok (.aload_n 0, 1) := by decide +kernel
theorem dX7_bring_17 : decode cX7_bring 17 = .ok (.getfield 21, 3) := by decide +kernel
theorem dX7_bring_20 : decode cX7_bring 20 = .ok (.iload_n 2, 1) := by decide +kernel
theorem dX7_bring_21 : decode cX7_bring 21 = .ok (.iconst 0, 1) := by decide +kernel
theorem dX7_bring_22 : decode cX7_bring 22 = .ok (.bastore, 1) := by decide +kernel
theorem dX7_bring_23 : decode cX7_bring 23 = .ok (.aload_n 0, 1) := by decide +kernel
theorem dX7_bring_24 : decode cX7_bring 24 = .ok (.dup, 1) := by decide +kernel
theorem dX7_bring_25 : decode cX7_bring 25 = .ok (.getfield 35, 3) := by decide +kernel
theorem dX7_bring_28 : decode cX7_bring 28 = .ok (.iconst 1, 1) := by decide +kernel
theorem dX7_bring_29 : decode cX7_bring 29 = .ok (.isub, 1) := by decide +kernel
theorem dX7_bring_30 : decode cX7_bring 30 = .ok (.putfield 35, 3) := by decide +kernel
theorem dX7_bring_33 : decode cX7_bring 33 = .ok (.aload_n 0, 1) := by decide +kernel
theorem dX7_bring_34 : decode cX7_bring 34 = .ok (.dup, 1) := by decide +kernel
theorem dX7_bring_35 : decode cX7_bring 35 = .ok (.getfield 29, 3) := by decide +kernel
theorem dX7_bring_38 : decode cX7_bring 38 = .ok (.iconst 1, 1) := by decide +kernel
theorem dX7_bring_39 : decode cX7_bring 39 = .ok (.iadd, 1) := by decide +kernel
theorem dX7_bring_40 : decode cX7_bring 40 = .ok (.putfield 29, 3) := by decide +kernel
theorem dX7_bring_43 : decode cX7_bring 43 = .ok (.aload_n 0, 1) := by decide +kernel
theorem dX7_bring_44 : decode cX7_bring 44 = .ok (.getfield 25, 3) := by decide +kernel
theorem dX7_bring_47 : decode cX7_bring 47 = .ok (.ifCond .le 19, 3) := by decide +kernel
theorem dX7_bring_50 : decode cX7_bring 50 = .ok (.aload_n 0, 1) := by decide +kernel
theorem dX7_bring_51 : decode cX7_bring 51 = .ok (.getfield 29, 3) := by decide +kernel
theorem dX7_bring_54 : decode cX7_bring 54 = .ok (.aload_n 0, 1) := by decide +kernel
theorem dX7_bring_55 : decode cX7_bring 55 = .ok (.getfield 25, 3) := by decide +kernel
theorem dX7_bring_58 : decode cX7_bring 58 = .ok (.irem, 1) := by decide +kernel
theorem dX7_bring_59 : decode cX7_bring 59 = .ok (.ifCond .ne 7, 3) := by decide +kernel
theorem dX7_bring_62 : decode cX7_bring 62 = .ok (.iconst 1, 1) := by decide +kernel
theorem dX7_bring_63 : decode cX7_bring 63 = .ok (.goto 4, 3) := by decide +kernel
theorem dX7_bring_66 : decode cX7_bring 66 = .ok (.iconst 0, 1) := by decide +kernel
theorem dX7_bring_67 : decode cX7_bring 67 = .ok (.istore_n 3, 1) := by decide +kernel
theorem dX7_bring_68 : decode cX7_bring 68 = .ok (.iload_n 3, 1) := by decide +kernel
theorem dX7_bring_69 : decode cX7_bring 69 = .ok (.ifCond .eq 13, 3) := by decide +kernel
theorem dX7_bring_72 : decode cX7_bring 72 = .ok (.aload_n 0, 1) := by decide +kernel
theorem dX7_bring_73 : decode cX7_bring 73 = .ok (.dup, 1) := by decide +kernel
theorem dX7_bring_74 : decode cX7_bring 74 = .ok (.getfield 32, 3) := by decide +kernel
theorem dX7_bring_77 : decode cX7_bring 77 = .ok (.iconst 1, 1) := by decide +kernel
theorem dX7_bring_78 : decode cX7_bring 78 = .ok (.iadd, 1) := by decide +kernel
theorem dX7_bring_79 : decode cX7_bring 79 = .ok (.putfield 32, 3) := by decide +kernel
theorem dX7_bring_82 : decode cX7_bring 82 = .ok (.iconst 0, 1) := by decide +kernel
theorem dX7_bring_83 : decode cX7_bring 83 = .ok (.istore 4, 2) := by decide +kernel
theorem dX7_bring_85 : decode cX7_bring 85 = .ok (.iload 4, 2) := by decide +kernel
theorem dX7_bring_87 : decode cX7_bring 87 = .ok (.bipush 8, 2) := by decide +kernel
theorem dX7_bring_89 : decode cX7_bring 89 = .ok (.if_icmp .ge 36, 3) := by decide +kernel
theorem dX7_bring_92 : decode cX7_bring 92 = .ok (.aload_n 0, 1) := by decide +kernel
theorem dX7_bring_93 : decode cX7_bring 93 = .ok (.getfield 15, 3) := by decide +kernel
theorem dX7_bring_96 : decode cX7_bring 96 = .ok (.iload 4, 2) := by decide +kernel
theorem dX7_bring_98 : decode cX7_bring 98 = .ok (.iload_n 3, 1) := by decide +kernel
theorem dX7_bring_99 : decode cX7_bring 99 = .ok (.ifCond .eq 7, 3) := by decide +kernel
theorem dX7_bring_102 : decode cX7_bring 102 = .ok (.iconst 0, 1) := by decide +kernel
theorem dX7_bring_103 : decode cX7_bring 103 = .ok (.goto 15, 3) := by decide +kernel
theorem dX7_bring_106 : decode cX7_bring 106 = .ok (.aload_n 0, 1) := by decide +kernel
theorem dX7_bring_107 : decode cX7_bring 107 = .ok (.getfield 18, 3) := by decide +kernel
theorem dX7_bring_110 : decode cX7_bring 110 = .ok (.iload_n 2, 1) := by decide +kernel
theorem dX7_bring_111 : decode cX7_bring 111 = .ok (.bipush 8, 2) := by decide +kernel
theorem dX7_bring_113 : decode cX7_bring 113 = .ok (.imul, 1) := by decide +kernel
theorem dX7_bring_114 : decode cX7_bring 114 = .ok (.iload 4, 2) := by decide +kernel
theorem dX7_bring_116 : decode cX7_bring 116 = .ok (.iadd, 1) := by decide +kernel
theorem dX7_bring_117 : decode cX7_bring 117 = .ok (.iaload, 1) := by decide +kernel
theorem dX7_bring_118 : decode cX7_bring 118 = .ok (.iastore, 1) := by decide +kernel
theorem dX7_bring_119 : decode cX7_bring 119 = .ok (.iinc 4 1, 3) := by decide +kernel
theorem dX7_bring_122 : decode cX7_bring 122 = .ok (.goto (-37), 3) := by decide +kernel
theorem dX7_bring_125 : decode cX7_bring 125 = .ok (.return_, 1) := by decide +kernel
theorem dX7_sort_0 : decode cX7_sort 0 = .ok (.aload_n 0, 1) := by decide +kernel
theorem dX7_sort_1 : decode cX7_sort 1 = .ok (.getfield 15, 3) := by decide +kernel
theorem dX7_sort_4 : decode cX7_sort 4 = .ok (.iconst 0, 1) := by decide +kernel
theorem dX7_sort_5 : decode cX7_sort 5 = .ok (.iaload, 1) := by decide +kernel
theorem dX7_sort_6 : decode cX7_sort 6 = .ok (.ireturn, 1) := by decide +kernel
theorem dX7_first_0 : decode cX7_first 0 = .ok (.aload_n 0, 1) := by decide +kernel
theorem dX7_first_1 : decode cX7_first 1 = .ok (.getfield 15, 3) := by decide +kernel
theorem dX7_first_4 : decode cX7_first 4 = .ok (.iconst 1, 1) := by decide +kernel
theorem dX7_first_5 : decode cX7_first 5 = .ok (.iaload, 1) := by decide +kernel
theorem dX7_first_6 : decode cX7_first 6 = .ok (.ireturn, 1) := by decide +kernel
theorem dX7_second_0 : decode cX7_second 0 = .ok (.aload_n 0, 1) := by decide +kernel
theorem dX7_second_1 : decode cX7_second 1 = .ok (.getfield 15, 3) := by decide +kernel
theorem dX7_second_4 : decode cX7_second 4 = .ok (.iconst 2, 1) := by decide +kernel
theorem dX7_second_5 : decode cX7_second 5 = .ok (.iaload, 1) := by decide +kernel
theorem dX7_second_6 : decode cX7_second 6 = .ok (.ireturn, 1) := by decide +kernel
theorem dX7_letters_0 : decode cX7_letters 0 = .ok (.aload_n 0, 1) := by decide +kernel
theorem dX7_letters_1 : decode cX7_letters 1 = .ok (.getfield 15, 3) := by decide +kernel
theorem dX7_letters_4 : decode cX7_letters 4 = .ok (.iconst 3, 1) := by decide +kernel
theorem dX7_letters_5 : decode cX7_letters 5 = .ok (.iaload, 1) := by decide +kernel
theorem dX7_letters_6 : decode cX7_letters 6 = .ok (.ireturn, 1) := by decide +kernel
theorem dX7_told_0 : decode cX7_told 0 = .ok (.aload_n 0, 1) := by decide +kernel
theorem dX7_told_1 : decode cX7_told 1 = .ok (.getfield 15, 3) := by decide +kernel
theorem dX7_told_4 : decode cX7_told 4 = .ok (.iconst 4, 1) := by decide +kernel
theorem dX7_told_5 : decode cX7_told 5 = .ok (.iaload, 1) := by decide +kernel
theorem dX7_told_6 : decode cX7_told 6 = .ok (.ireturn, 1) := by decide +kernel
theorem dX7_enclosed_0 : decode cX7_enclosed 0 = .ok (.iload_n 1, 1) := by decide +kernel
theorem dX7_enclosed_1 : decode cX7_enclosed 1 = .ok (.ifCond .lt 19, 3) := by decide +kernel
theorem dX7_enclosed_4 : decode cX7_enclosed 4 = .ok (.iload_n 1, 1) := by decide +kernel
theorem dX7_enclosed_5 : decode cX7_enclosed 5 = .ok (.iconst 3, 1) := by decide +kernel
theorem dX7_enclosed_6 : decode cX7_enclosed 6 = .ok (.if_icmp .ge 14, 3) := by decide +kernel
theorem dX7_enclosed_9 : decode cX7_enclosed 9 = .ok (.aload_n 0, 1) := by decide +kernel
theorem dX7_enclosed_10 : decode cX7_enclosed 10 = .ok (.getfield 15, 3) := by decide +kernel
theorem dX7_enclosed_13 : decode cX7_enclosed 13 = .ok (.iconst 5, 1) := by decide +kernel
theorem dX7_enclosed_14 : decode cX7_enclosed 14 = .ok (.iload_n 1, 1) := by decide +kernel
theorem dX7_enclosed_15 : decode cX7_enclosed 15 = .ok (.iadd, 1) := by decide +kernel
theorem dX7_enclosed_16 : decode cX7_enclosed 16 = .ok (.iaload, 1) := by decide +kernel
theorem dX7_enclosed_17 : decode cX7_enclosed 17 = .ok (.goto 4, 3) := by decide +kernel
theorem dX7_enclosed_20 : decode cX7_enclosed 20 = .ok (.iconst 0, 1) := by decide +kernel
theorem dX7_enclosed_21 : decode cX7_enclosed 21 = .ok (.ireturn, 1) := by decide +kernel
set_option maxRecDepth 20000 in
theorem ggX8_init_X1_init : GoodIn wsX8_init wsX1_init := goodIn_r _ [21, 22, 2, 3, 23, 24, 25, 26, 27, 28, 29, 30, 31, 32, 33, 34, 35, 36, 37, 38, 39, 40, 41, 42, 43, 126, 127, 128, 129, 130, 131, 132, 133, 95, 96, 97, 98] (by decide +kernel) (by decide +kernel)
set_option maxRecDepth 20000 in
theorem gX8_init_X1_init_n9 : GoodIn wsX8_init (wsX1_init) := ggX8_init_X1_init
set_option maxRecDepth 20000 in
theorem ggX8_init_X4_init : GoodIn wsX8_init wsX4_init := goodIn_r _ [45, 46, 2, 3, 34, 47, 48, 99, 100] (by decide +kernel) (by decide +kernel)
set_option maxRecDepth 20000 in
theorem gX8_init_X4_init_n12 : GoodIn wsX8_init (wsX4_init) := ggX8_init_X4_init
set_option maxRecDepth 20000 in
theorem ggX8_init_X3_init : GoodIn wsX8_init wsX3_init := goodIn_r _ [51, 52, 2, 3, 53, 54, 55, 56, 57, 58, 59, 60, 34, 61, 62, 63, 64, 65, 66, 67, 68, 69, 70, 71, 72, 73, 74, 75, 76, 77, 78, 79, 80, 81, 82, 83, 84, 85, 86, 87, 88, 89, 90, 91, 92, 93, 94, 134, 135, 106, 107, 108, 109, 110, 111, 112, 113, 114, 115, 116, 117, 118, 119, 120, 121, 122, 123, 124, 125, 136, 137, 138, 139, 140, 141, 142, 143] (by decide +kernel) (by decide +kernel)
set_option maxRecDepth 20000 in
theorem gX8_init_X3_init : GoodIn wsX8_init (wsX3_init) := ggX8_init_X3_init
theorem dX8_init_0 : decode cX8_init 0 = .ok (.aload_n 0, 1) := by decide +kernel
theorem dX8_init_1 : decode cX8_init 1 = .ok (.invokespecial 1, 3) := by decide +kernel
theorem dX8_init_4 : decode cX8_init 4 = .ok (.new 7, 3) := by decide +kernel
theorem dX8_init_7 : decode cX8_init 7 = .ok (.dup, 1) := by decide +kernel
theorem dX8_init_8 : decode cX8_init 8 = .ok (.invokespecial 9, 3) := by decide +kernel
theorem dX8_init_11 : decode cX8_init 11 = .ok (.astore_n 1, 1) := by decide +kernel
theorem dX8_init_12 : decode cX8_init 12 = .ok (.aload_n 0, 1) := by decide +kernel
theorem dX8_init_13 : decode cX8_init 13 = .ok (.new 10, 3) := by decide +kernel
theorem dX8_init_16 : decode cX8_init 16 = .ok (.dup, 1) := by decide +kernel
theorem dX8_init_17 : decode cX8_init 17 = .ok (.invokespecial 12, 3) := by decide +kernel
theorem dX8_init_20 : decode cX8_init 20 = .ok (.putfield 13, 3) := by decide +kernel
theorem dX8_init_23 : decode cX8_init 23 = .ok (.aload_n 0, 1) := by decide +kernel
theorem dX8_init_24 : decode cX8_init 24 = .ok (.aload_n 1, 1) := by decide +kernel
theorem dX8_init_25 : decode cX8_init 25 = .ok (.putfield 19, 3) := by decide +kernel
theorem dX8_init_28 : decode cX8_init 28 = .ok (.aload_n 0, 1) := by decide +kernel
theorem dX8_init_29 : decode cX8_init 29 = .ok (.new 23, 3) := by decide +kernel
theorem dX8_init_32 : decode cX8_init 32 = .ok (.dup, 1) := by decide +kernel
theorem dX8_init_33 : decode cX8_init 33 = .ok (.aload_n 1, 1) := by decide +kernel
theorem dX8_init_34 : decode cX8_init 34 = .ok (.aload_n 1, 1) := by decide +kernel
theorem dX8_init_35 : decode cX8_init 35 = .ok (.getfield 25, 3) := by decide +kernel
theorem dX8_init_38 : decode cX8_init 38 = .ok (.aload_n 1, 1) := by decide +kernel
theorem dX8_init_39 : decode cX8_init 39 = .ok (.getfield 29, 3) := by decide +kernel
theorem dX8_init_42 : decode cX8_init 42 = .ok (.invokespecial 32, 3) := by decide +kernel
theorem dX8_init_45 : decode cX8_init 45 = .ok (.putfield 35, 3) := by decide +kernel
theorem dX8_init_48 : decode cX8_init 48 = .ok (.aload_n 0, 1) := by decide +kernel
theorem dX8_init_49 : decode cX8_init 49 = .ok (.new 23, 3) := by decide +kernel
theorem dX8_init_52 : decode cX8_init 52 = .ok (.dup, 1) := by decide +kernel
theorem dX8_init_53 : decode cX8_init 53 = .ok (.aload_n 1, 1) := by decide +kernel
theorem dX8_init_54 : decode cX8_init 54 = .ok (.aload_n 1, 1) := by decide +kernel
theorem dX8_init_55 : decode cX8_init 55 = .ok (.getfield 29, 3) := by decide +kernel
theorem dX8_init_58 : decode cX8_init 58 = .ok (.aload_n 1, 1) := by decide +kernel
theorem dX8_init_59 : decode cX8_init 59 = .ok (.getfield 25, 3) := by decide +kernel
theorem dX8_init_62 : decode cX8_init 62 = .ok (.invokespecial 32, 3) := by decide +kernel
theorem dX8_init_65 : decode cX8_init 65 = .ok (.putfield 39, 3) := by decide +kernel
theorem dX8_init_68 : decode cX8_init 68 = .ok (.aload_n 0, 1) := by decide +kernel
theorem dX8_init_69 : decode cX8_init 69 = .ok (.iconst 0, 1) := by decide +kernel
theorem dX8_init_70 : decode cX8_init 70 = .ok (.putfield 42, 3) := by decide +kernel
theorem dX8_init_73 : decode cX8_init 73 = .ok (.return_, 1) := by decide +kernel
set_option maxRecDepth 20000 in
theorem ggX8_letter_X4_add : GoodIn wsX8_letter wsX4_add := goodIn_r _ [7, 8, 9, 15, 16] (by decide +kernel) (by decide +kernel)
set_option maxRecDepth 20000 in
theorem gX8_letter_X4_add : GoodIn wsX8_letter (wsV RX8 49 RX4 yX4_add wsX4_add) := goodIn_app (goodIn_of _ (by decide +kernel)) ggX8_letter_X4_add
theorem dX8_letter_0 : decode cX8_letter 0 = .ok (.iload_n 1, 1) := by decide +kernel
theorem dX8_letter_1 : decode cX8_letter 1 = .ok (.bipush 32, 2) := by decide +kernel
theorem dX8_letter_3 : decode cX8_letter 3 = .ok (.if_icmp .lt 9, 3) := by decide +kernel
theorem dX8_letter_6 : decode cX8_letter 6 = .ok (.iload_n 1, 1) := by decide +kernel
theorem dX8_letter_7 : decode cX8_letter 7 = .ok (.bipush 126, 2) := by decide +kernel
theorem dX8_letter_9 : decode cX8_letter 9 = .ok (.if_icmp .le 7, 3) := by decide +kernel
theorem dX8_letter_12 : decode cX8_letter 12 = .ok (.sipush (-1002), 3) := by decide +kernel
theorem dX8_letter_15 : decode cX8_letter 15 = .ok (.ireturn, 1) := by decide +kernel
theorem dX8_letter_16 : decode cX8_letter 16 = .ok (.aload_n 0, 1) := by decide +kernel
theorem dX8_letter_17 : decode cX8_letter 17 = .ok (.getfield 13, 3) := by decide +kernel
theorem dX8_letter_20 : decode cX8_letter 20 = .ok (.getfield 46, 3) := by decide +kernel
theorem dX8_letter_23 : decode cX8_letter 23 = .ok (.bipush 30, 2) := by decide +kernel
theorem dX8_letter_25 : decode cX8_letter 25 = .ok (.if_icmp .lt 7, 3) := by decide +kernel
theorem dX8_letter_28 : decode cX8_letter 28 = .ok (.sipush (-1004), 3) := by decide +kernel
theorem dX8_letter_31 : decode cX8_letter 31 = .ok (.ireturn, 1) := by decide +kernel
theorem dX8_letter_32 : decode cX8_letter 32 = .ok (.aload_n 0, 1) := by decide +kernel
theorem dX8_letter_33 : decode cX8_letter 33 = .ok (.getfield 13, 3) := by decide +kernel
theorem dX8_letter_36 : decode cX8_letter 36 = .ok (.iload_n 1, 1) := by decide +kernel
theorem dX8_letter_37 : decode cX8_letter 37 = .ok (.invokevirtual 49, 3) := by decide +kernel
theorem dX8_letter_40 : decode cX8_letter 40 = .ok (.aload_n 0, 1) := by decide +kernel
theorem dX8_letter_41 : decode cX8_letter 41 = .ok (.getfield 13, 3) := by decide +kernel
theorem dX8_letter_44 : decode cX8_letter 44 = .ok (.getfield 46, 3) := by decide +kernel
theorem dX8_letter_47 : decode cX8_letter 47 = .ok (.ireturn, 1) := by decide +kernel
theorem dX8_blank_0 : decode cX8_blank 0 = .ok (.aload_n 0, 1) := by decide +kernel
theorem dX8_blank_1 : decode cX8_blank 1 = .ok (.getfield 13, 3) := by decide +kernel
theorem dX8_blank_4 : decode cX8_blank 4 = .ok (.getfield 46, 3) := by decide +kernel
theorem dX8_blank_7 : decode cX8_blank 7 = .ok (.istore_n 1, 1) := by decide +kernel
theorem dX8_blank_8 : decode cX8_blank 8 = .ok (.aload_n 0, 1) := by decide +kernel
theorem dX8_blank_9 : decode cX8_blank 9 = .ok (.getfield 13, 3) := by decide +kernel
theorem dX8_blank_12 : decode cX8_blank 12 = .ok (.iconst 0, 1) := by decide +kernel
theorem dX8_blank_13 : decode cX8_blank 13 = .ok (.putfield 46, 3) := by decide +kernel
theorem dX8_blank_16 : decode cX8_blank 16 = .ok (.iload_n 1, 1) := by decide +kernel
theorem dX8_blank_17 : decode cX8_blank 17 = .ok (.ireturn, 1) := by decide +kernel
set_option maxRecDepth 20000 in
theorem ggX8_fault_X4_firstFault : GoodIn wsX8_fault wsX4_firstFault := goodIn_r _ [6, 7, 8, 9, 10, 5, 11, 12, 13, 14, 15, 16, 17, 18, 19, 20, 21, 22, 23, 24, 25, 26, 27, 28, 29, 30, 31, 32, 38, 39] (by decide +kernel) (by decide +kernel)
set_option maxRecDepth 20000 in
theorem gX8_fault_X4_firstFault : GoodIn wsX8_fault (wsV RX8 53 RX4 yX4_firstFault wsX4_firstFault) := goodIn_app (goodIn_of _ (by decide +kernel)) ggX8_fault_X4_firstFault
theorem dX8_fault_0 : decode cX8_fault 0 = .ok (.aload_n 0, 1) := by decide +kernel
theorem dX8_fault_1 : decode cX8_fault 1 = .ok (.getfield 13, 3) := by decide +kernel
theorem dX8_fault_4 : decode cX8_fault 4 = .ok (.invokevirtual 53, 3) := by decide +kernel
theorem dX8_fault_7 : decode cX8_fault 7 = .ok (.ireturn, 1) := by decide +kernel
set_option maxRecDepth 20000 in
theorem ggX8_line_X4_isLine : GoodIn wsX8_line wsX4_isLine := goodIn_r _ [9, 10, 11, 12, 13, 8, 14, 15, 16, 17, 18, 19, 20, 21, 22, 23, 24, 25, 26, 27, 28, 29, 30, 31, 32, 33, 34, 35, 36, 37, 38, 39, 68, 69] (by decide +kernel) (by decide +kernel)
set_option maxRecDepth 20000 in
theorem gX8_line_X4_isLine : GoodIn wsX8_line (wsV RX8 57 RX4 yX4_isLine wsX4_isLine) := goodIn_app (goodIn_of _ (by decide +kernel)) ggX8_line_X4_isLine
set_option maxRecDepth 20000 in
theorem ggX8_line_X1_read : GoodIn wsX8_line wsX1_read := goodIn_r _ [44, 45, 46, 47, 48, 49, 50, 51, 52, 53, 8, 54, 19, 20, 21, 22, 10, 23, 24, 25, 26, 27, 55, 56, 57, 58, 59, 60, 61, 62, 32, 33, 34, 35, 36, 37, 38, 39, 70, 71, 72, 73, 74, 75, 76, 77, 78, 79, 80, 81, 68, 69] (by decide +kernel) (by decide +kernel)
set_option maxRecDepth 20000 in
theorem gX8_line_X1_read : GoodIn wsX8_line (wsV RX8 61 RX1 yX1_read wsX1_read) := goodIn_app (goodIn_of _ (by decide +kernel)) ggX8_line_X1_read
theorem dX8_line_0 : decode cX8_line 0 = .ok (.aload_n 0, 1) := by decide +kernel
theorem dX8_line_1 : decode cX8_line 1 = .ok (.getfield 13, 3) := by decide +kernel
theorem dX8_line_4 : decode cX8_line 4 = .ok (.invokevirtual 57, 3) := by decide +kernel
theorem dX8_line_7 : decode cX8_line 7 = .ok (.ifCond .ne 7, 3) := by decide +kernel
theorem dX8_line_10 : decode cX8_line 10 = .ok (.sipush (-1003), 3) := by decide +kernel
theorem dX8_line_13 : decode cX8_line 13 = .ok (.ireturn, 1) := by decide +kernel
theorem dX8_line_14 : decode cX8_line 14 = .ok (.aload_n 0, 1) := by decide +kernel
theorem dX8_line_15 : decode cX8_line 15 = .ok (.getfield 19, 3) := by decide +kernel
theorem dX8_line_18 : decode cX8_line 18 = .ok (.aload_n 0, 1) := by decide +kernel
theorem dX8_line_19 : decode cX8_line 19 = .ok (.getfield 13, 3) := by decide +kernel
theorem dX8_line_22 : decode cX8_line 22 = .ok (.invokevirtual 61, 3) := by decide +kernel
theorem dX8_line_25 : decode cX8_line 25 = .ok (.aload_n 0, 1) := by decide +kernel
theorem dX8_line_26 : decode cX8_line 26 = .ok (.getfield 13, 3) := by decide +kernel
theorem dX8_line_29 : decode cX8_line 29 = .ok (.iconst 0, 1) := by decide +kernel
theorem dX8_line_30 : decode cX8_line 30 = .ok (.putfield 46, 3) := by decide +kernel
theorem dX8_line_33 : decode cX8_line 33 = .ok (.aload_n 0, 1) := by decide +kernel
theorem dX8_line_34 : decode cX8_line 34 = .ok (.getfield 19, 3) := by decide +kernel
theorem dX8_line_37 : decode cX8_line 37 = .ok (.getfield 65, 3) := by decide +kernel
theorem dX8_line_40 : decode cX8_line 40 = .ok (.ireturn, 1) := by decide +kernel
set_option maxRecDepth 20000 in
theorem ggX8_say_X8_modemAt : GoodIn wsX8_say wsX8_modemAt := goodIn_r _ [9, 10, 11, 54, 55, 56, 57, 58] (by decide +kernel) (by decide +kernel)
set_option maxRecDepth 20000 in
theorem gX8_say_X8_modemAt : GoodIn wsX8_say (wsV RX8 68 RX8 yX8_modemAt wsX8_modemAt) := goodIn_app (goodIn_of _ (by decide +kernel)) ggX8_say_X8_modemAt
set_option maxRecDepth 20000 in
theorem ggX8_say_X4_codeAt : GoodIn wsX8_say wsX4_codeAt := goodIn_r _ [16, 17, 18, 59, 60] (by decide +kernel) (by decide +kernel)
set_option maxRecDepth 20000 in
theorem gX8_say_X4_codeAt : GoodIn wsX8_say (wsV RX8 81 RX4 yX4_codeAt wsX4_codeAt) := goodIn_app (goodIn_of _ (by decide +kernel)) ggX8_say_X4_codeAt
set_option maxRecDepth 20000 in
theorem ggX8_say_X2_add : GoodIn wsX8_say wsX2_add := goodIn_r _ [23, 24, 25, 46, 47, 48, 49, 50, 51, 52, 53] (by decide +kernel) (by decide +kernel)
set_option maxRecDepth 20000 in
theorem gX8_say_X2_add : GoodIn wsX8_say (wsV RX8 85 RX2 yX2_add wsX2_add) := goodIn_app (goodIn_of _ (by decide +kernel)) ggX8_say_X2_add
theorem dX8_say_0 : decode cX8_say 0 = .ok (.aload_n 0, 1) := by decide +kernel
theorem dX8_say_1 : decode cX8_say 1 = .ok (.iload_n 1, 1) := by decide +kernel
theorem dX8_say_2 : decode cX8_say 2 = .ok (.invokevirtual 68, 3) := by decide +kernel
theorem dX8_say_5 : decode cX8_say 5 = .ok (.astore_n 2, 1) := by decide +kernel
theorem dX8_say_6 : decode cX8_say 6 = .ok (.aload_n 2, 1) := by decide +kernel
theorem dX8_say_7 : decode cX8_say 7 = .ok (.ifnonnull 7, 3) := by decide +kernel
theorem dX8_say_10 : decode cX8_say 10 = .ok (.sipush (-1001), 3) := by decide +kernel
theorem dX8_say_13 : decode cX8_say 13 = .ok (.ireturn, 1) := by decide +kernel
theorem dX8_say_14 : decode cX8_say 14 = .ok (.aload_n 2, 1) := by decide +kernel
theorem dX8_say_15 : decode cX8_say 15 = .ok (.getfield 72, 3) := by decide +kernel
theorem dX8_say_18 : decode cX8_say 18 = .ok (.getfield 76, 3) := by decide +kernel
theorem dX8_say_21 : decode cX8_say 21 = .ok (.aload_n 0, 1) := by decide +kernel
theorem dX8_say_22 : decode cX8_say 22 = .ok (.getfield 13, 3) := by decide +kernel
theorem dX8_say_25 : decode cX8_say 25 = .ok (.getfield 46, 3) := by decide +kernel
theorem dX8_say_28 : decode cX8_say 28 = .ok (.iadd, 1) := by decide +kernel
theorem dX8_say_29 : decode cX8_say 29 = .ok (.sipush 200, 3) := by decide +kernel
theorem dX8_say_32 : decode cX8_say 32 = .ok (.if_icmp .le 7, 3) := by decide +kernel
theorem dX8_say_35 : decode cX8_say 35 = .ok (.sipush (-1004), 3) := by decide +kernel
theorem dX8_say_38 : decode cX8_say 38 = .ok (.ireturn, 1) := by decide +kernel
theorem dX8_say_39 : decode cX8_say 39 = .ok (.iconst 0, 1) := by decide +kernel
theorem dX8_say_40 : decode cX8_say 40 = .ok (.istore_n 3, 1) := by decide +kernel
theorem dX8_say_41 : decode cX8_say 41 = .ok (.iload_n 3, 1) := by decide +kernel
theorem dX8_say_42 : decode cX8_say 42 = .ok (.aload_n 0, 1) := by decide +kernel
theorem dX8_say_43 : decode cX8_say 43 = .ok (.getfield 13, 3) := by decide +kernel
theorem dX8_say_46 : decode cX8_say 46 = .ok (.getfield 46, 3) := by decide +kernel
theorem dX8_say_49 : decode cX8_say 49 = .ok (.if_icmp .ge 24, 3) := by decide +kernel
theorem dX8_say_52 : decode cX8_say 52 = .ok (.aload_n 2, 1) := by decide +kernel
theorem dX8_say_53 : decode cX8_say 53 = .ok (.getfield 72, 3) := by decide +kernel
theorem dX8_say_56 : decode cX8_say 56 = .ok (.aload_n 0, 1) := by decide +kernel
theorem dX8_say_57 : decode cX8_say 57 = .ok (.getfield 13, 3) := by decide +kernel
theorem dX8_say_60 : decode cX8_say 60 = .ok (.iload_n 3, 1) := by decide +kernel
theorem dX8_say_61 : decode cX8_say 61 = .ok (.invokevirtual 81, 3) := by decide +kernel
theorem dX8_say_64 : decode cX8_say 64 = .ok (.invokevirtual 85, 3) := by decide +kernel
theorem dX8_say_67 : decode cX8_say 67 = .ok (.iinc 3 1, 3) := by decide +kernel
theorem dX8_say_70 : decode cX8_say 70 = .ok (.goto (-29), 3) := by decide +kernel
theorem dX8_say_73 : decode cX8_say 73 = .ok (.aload_n 0, 1) := by decide +kernel
theorem dX8_say_74 : decode cX8_say 74 = .ok (.getfield 13, 3) := by decide +kernel
theorem dX8_say_77 : decode cX8_say 77 = .ok (.iconst 0, 1) := by decide +kernel
theorem dX8_say_78 : decode cX8_say 78 = .ok (.putfield 46, 3) := by decide +kernel
theorem dX8_say_81 : decode cX8_say 81 = .ok (.aload_n 2, 1) := by decide +kernel
theorem dX8_say_82 : decode cX8_say 82 = .ok (.getfield 72, 3) := by decide +kernel
theorem dX8_say_85 : decode cX8_say 85 = .ok (.getfield 76, 3) := by decide +kernel
theorem dX8_say_88 : decode cX8_say 88 = .ok (.ireturn, 1) := by decide +kernel
set_option maxRecDepth 20000 in
theorem ggX8_echo_X8_modemAt : GoodIn wsX8_echo wsX8_modemAt := goodIn_r _ [7, 8, 9, 32, 33, 34, 35, 36] (by decide +kernel) (by decide +kernel)
set_option maxRecDepth 20000 in
theorem gX8_echo_X8_modemAt : GoodIn wsX8_echo (wsV RX8 68 RX8 yX8_modemAt wsX8_modemAt) := goodIn_app (goodIn_of _ (by decide +kernel)) ggX8_echo_X8_modemAt
theorem dX8_echo_0 : decode cX8_echo 0 = .ok (.aload_n 0, 1) := by decide +kernel
theorem dX8_echo_1 : decode cX8_echo 1 = .ok (.iload_n 1, 1) := by decide +kernel
theorem dX8_echo_2 : decode cX8_echo 2 = .ok (.invokevirtual 68, 3) := by decide +kernel
theorem dX8_echo_5 : decode cX8_echo 5 = .ok (.astore 4, 2) := by decide +kernel
theorem dX8_echo_7 : decode cX8_echo 7 = .ok (.aload 4, 2) := by decide +kernel
theorem dX8_echo_9 : decode cX8_echo 9 = .ok (.ifnull 12, 3) := by decide +kernel
theorem dX8_echo_12 : decode cX8_echo 12 = .ok (.iload_n 2, 1) := by decide +kernel
theorem dX8_echo_13 : decode cX8_echo 13 = .ok (.ifCond .lt 8, 3) := by decide +kernel
theorem dX8_echo_16 : decode cX8_echo 16 = .ok (.iload_n 2, 1) := by decide +kernel
theorem dX8_echo_17 : decode cX8_echo 17 = .ok (.iconst 4, 1) := by decide +kernel
theorem dX8_echo_18 : decode cX8_echo 18 = .ok (.if_icmp .lt 7, 3) := by decide +kernel
theorem dX8_echo_21 : decode cX8_echo 21 = .ok (.sipush (-1001), 3) := by decide +kernel
theorem dX8_echo_24 : decode cX8_echo 24 = .ok (.ireturn, 1) := by decide +kernel
theorem dX8_echo_25 : decode cX8_echo 25 = .ok (.iload_n 3, 1) := by decide +kernel
theorem dX8_echo_26 : decode cX8_echo 26 = .ok (.bipush (-100), 2) := by decide +kernel
theorem dX8_echo_28 : decode cX8_echo 28 = .ok (.if_icmp .lt 9, 3) := by decide +kernel
theorem dX8_echo_31 : decode cX8_echo 31 = .ok (.iload_n 3, 1) := by decide +kernel
theorem dX8_echo_32 : decode cX8_echo 32 = .ok (.bipush 100, 2) := by decide +kernel
theorem dX8_echo_34 : decode cX8_echo 34 = .ok (.if_icmp .le 7, 3) := by decide +kernel
theorem dX8_echo_37 : decode cX8_echo 37 = .ok (.sipush (-1002), 3) := by decide +kernel
theorem dX8_echo_40 : decode cX8_echo 40 = .ok (.ireturn, 1) := by decide +kernel
theorem dX8_echo_41 : decode cX8_echo 41 = .ok (.aload 4, 2) := by decide +kernel
theorem dX8_echo_43 : decode cX8_echo 43 = .ok (.getfield 86, 3) := by decide +kernel
theorem dX8_echo_46 : decode cX8_echo 46 = .ok (.getfield 90, 3) := by decide +kernel
theorem dX8_echo_49 : decode cX8_echo 49 = .ok (.iload_n 2, 1) := by decide +kernel
theorem dX8_echo_50 : decode cX8_echo 50 = .ok (.iaload, 1) := by decide +kernel
theorem dX8_echo_51 : decode cX8_echo 51 = .ok (.istore 5, 2) := by decide +kernel
theorem dX8_echo_53 : decode cX8_echo 53 = .ok (.aload 4, 2) := by decide +kernel
theorem dX8_echo_55 : decode cX8_echo 55 = .ok (.getfield 86, 3) := by decide +kernel
theorem dX8_echo_58 : decode cX8_echo 58 = .ok (.getfield 90, 3) := by decide +kernel
theorem dX8_echo_61 : decode cX8_echo 61 = .ok (.iload_n 2, 1) := by decide +kernel
theorem dX8_echo_62 : decode cX8_echo 62 = .ok (.iload_n 3, 1) := by decide +kernel
theorem dX8_echo_63 : decode cX8_echo 63 = .ok (.iastore, 1) := by decide +kernel
theorem dX8_echo_64 : decode cX8_echo 64 = .ok (.iload 5, 2) := by decide +kernel
theorem dX8_echo_66 : decode cX8_echo 66 = .ok (.ireturn, 1) := by decide +kernel
set_option maxRecDepth 20000 in
theorem ggX8_call_X8_modemAt : GoodIn wsX8_call wsX8_modemAt := goodIn_r _ [6, 7, 8, 36, 37, 38, 39, 40] (by decide +kernel) (by decide +kernel)
set_option maxRecDepth 20000 in
theorem gX8_call_X8_modemAt : GoodIn wsX8_call (wsV RX8 68 RX8 yX8_modemAt wsX8_modemAt) := goodIn_app (goodIn_of _ (by decide +kernel)) ggX8_call_X8_modemAt
set_option maxRecDepth 20000 in
theorem ggX8_call_X3_force : GoodIn wsX8_call wsX3_force := goodIn_r _ [13, 14, 15, 16, 17, 18, 19, 20, 21, 22, 23, 24, 25, 26, 27, 28, 29, 30, 31, 32, 33, 34, 35] (by decide +kernel) (by decide +kernel)
set_option maxRecDepth 20000 in
theorem gX8_call_X3_force : GoodIn wsX8_call (wsV RX8 101 RX3 yX3_force wsX3_force) := goodIn_app (goodIn_of _ (by decide +kernel)) ggX8_call_X3_force
theorem dX8_call_0 : decode cX8_call 0 = .ok (.aload_n 0, 1) := by decide +kernel
theorem dX8_call_1 : decode cX8_call 1 = .ok (.iload_n 1, 1) := by decide +kernel
theorem dX8_call_2 : decode cX8_call 2 = .ok (.invokevirtual 68, 3) := by decide +kernel
theorem dX8_call_5 : decode cX8_call 5 = .ok (.astore_n 2, 1) := by decide +kernel
theorem dX8_call_6 : decode cX8_call 6 = .ok (.aload_n 2, 1) := by decide +kernel
theorem dX8_call_7 : decode cX8_call 7 = .ok (.ifnonnull 7, 3) := by decide +kernel
theorem dX8_call_10 : decode cX8_call 10 = .ok (.sipush (-1001), 3) := by decide +kernel
theorem dX8_call_13 : decode cX8_call 13 = .ok (.ireturn, 1) := by decide +kernel
theorem dX8_call_14 : decode cX8_call 14 = .ok (.aload_n 2, 1) := by decide +kernel
theorem dX8_call_15 : decode cX8_call 15 = .ok (.getfield 96, 3) := by decide +kernel
theorem dX8_call_18 : decode cX8_call 18 = .ok (.ifCond .eq 7, 3) := by decide +kernel
theorem dX8_call_21 : decode cX8_call 21 = .ok (.sipush (-1003), 3) := by decide +kernel
theorem dX8_call_24 : decode cX8_call 24 = .ok (.ireturn, 1) := by decide +kernel
theorem dX8_call_25 : decode cX8_call 25 = .ok (.aload_n 2, 1) := by decide +kernel
theorem dX8_call_26 : decode cX8_call 26 = .ok (.iconst 1, 1) := by decide +kernel
theorem dX8_call_27 : decode cX8_call 27 = .ok (.invokevirtual 101, 3) := by decide +kernel
theorem dX8_call_30 : decode cX8_call 30 = .ok (.iconst 1, 1) := by decide +kernel
theorem dX8_call_31 : decode cX8_call 31 = .ok (.ireturn, 1) := by decide +kernel
set_option maxRecDepth 20000 in
theorem ggX8_hang_X8_modemAt : GoodIn wsX8_hang wsX8_modemAt := goodIn_r _ [6, 7, 8, 36, 37, 38, 39, 40] (by decide +kernel) (by decide +kernel)
set_option maxRecDepth 20000 in
theorem gX8_hang_X8_modemAt : GoodIn wsX8_hang (wsV RX8 68 RX8 yX8_modemAt wsX8_modemAt) := goodIn_app (goodIn_of _ (by decide +kernel)) ggX8_hang_X8_modemAt
set_option maxRecDepth 20000 in
theorem ggX8_hang_X3_force : GoodIn wsX8_hang wsX3_force := goodIn_r _ [13, 14, 15, 16, 17, 18, 19, 20, 21, 22, 23, 24, 25, 26, 27, 28, 29, 30, 31, 32, 33, 34, 35] (by decide +kernel) (by decide +kernel)
set_option maxRecDepth 20000 in
theorem gX8_hang_X3_force : GoodIn wsX8_hang (wsV RX8 101 RX3 yX3_force wsX3_force) := goodIn_app (goodIn_of _ (by decide +kernel)) ggX8_hang_X3_force
theorem dX8_hang_0 : decode cX8_hang 0 = .ok (.aload_n 0, 1) := by decide +kernel
theorem dX8_hang_1 : decode cX8_hang 1 = .ok (.iload_n 1, 1) := by decide +kernel
theorem dX8_hang_2 : decode cX8_hang 2 = .ok (.invokevirtual 68, 3) := by decide +kernel
theorem dX8_hang_5 : decode cX8_hang 5 = .ok (.astore_n 2, 1) := by decide +kernel
theorem dX8_hang_6 : decode cX8_hang 6 = .ok (.aload_n 2, 1) := by decide +kernel
theorem dX8_hang_7 : decode cX8_hang 7 = .ok (.ifnonnull 7, 3) := by decide +kernel
theorem dX8_hang_10 : decode cX8_hang 10 = .ok (.sipush (-1001), 3) := by decide +kernel
theorem dX8_hang_13 : decode cX8_hang 13 = .ok (.ireturn, 1) := by decide +kernel
theorem dX8_hang_14 : decode cX8_hang 14 = .ok (.aload_n 2, 1) := by decide +kernel
theorem dX8_hang_15 : decode cX8_hang 15 = .ok (.getfield 96, 3) := by decide +kernel
theorem dX8_hang_18 : decode cX8_hang 18 = .ok (.ifCond .ne 7, 3) := by decide +kernel
theorem dX8_hang_21 : decode cX8_hang 21 = .ok (.sipush (-1003), 3) := by decide +kernel
theorem dX8_hang_24 : decode cX8_hang 24 = .ok (.ireturn, 1) := by decide +kernel
theorem dX8_hang_25 : decode cX8_hang 25 = .ok (.aload_n 2, 1) := by decide +kernel
theorem dX8_hang_26 : decode cX8_hang 26 = .ok (.getfield 96, 3) := by decide +kernel
theorem dX8_hang_29 : decode cX8_hang 29 = .ok (.istore_n 3, 1) := by decide +kernel
theorem dX8_hang_30 : decode cX8_hang 30 = .ok (.aload_n 2, 1) := by decide +kernel
theorem dX8_hang_31 : decode cX8_hang 31 = .ok (.iconst 0, 1) := by decide +kernel
theorem dX8_hang_32 : decode cX8_hang 32 = .ok (.invokevirtual 101, 3) := by decide +kernel
theorem dX8_hang_35 : decode cX8_hang 35 = .ok (.iload_n 3, 1) := by decide +kernel
theorem dX8_hang_36 : decode cX8_hang 36 = .ok (.ireturn, 1) := by decide +kernel
set_option maxRecDepth 20000 in
theorem ggX8_go_X8_changes : GoodIn wsX8_go wsX8_changes := goodIn_r _ [8, 1, 9, 3, 208, 209, 210, 211, 212, 213, 214, 215, 216, 217, 218, 219, 220, 221, 222, 223, 224, 225, 226, 227, 228, 229, 230, 231, 232] (by decide +kernel) (by decide +kernel)
set_option maxRecDepth 20000 in
theorem gX8_go_X8_changes : GoodIn wsX8_go (wsV RX8 104 RX8 yX8_changes wsX8_changes) := goodIn_app (goodIn_of _ (by decide +kernel)) ggX8_go_X8_changes
set_option maxRecDepth 20000 in
theorem ggX8_go_X3_live : GoodIn wsX8_go wsX3_live := goodIn_r _ [14, 15, 16, 17, 18, 19, 20, 21, 22, 23, 24, 25, 26, 27, 28, 29, 30, 31, 32, 33, 34, 35, 36, 37, 38, 13, 39, 40, 41, 42, 43, 44, 45, 46, 47, 48, 49, 50, 51, 52, 53, 54, 55, 56, 57, 58, 59, 60, 61, 62, 63, 64, 65, 66, 67, 68, 69, 70, 71, 72, 73, 74, 75, 76, 77, 78, 79, 80, 81, 82, 83, 84, 85, 86, 87, 88, 89, 90, 91, 92, 93, 94, 95, 96, 97, 98, 99, 100, 101, 102, 103, 104, 105, 106, 107, 108, 109, 110, 111, 112, 113, 114, 115, 116, 117, 118, 119, 120, 121, 122, 123, 124, 125, 126, 127, 128, 129, 130, 131, 132, 133, 134, 135, 136, 137, 138, 139, 140, 141, 142, 143, 144, 145, 146, 147, 148, 149, 150, 151, 152, 153, 154, 155, 156, 157, 158, 159, 160, 161, 162, 163, 164, 165, 166, 167, 168, 169, 170, 171, 172, 173, 174, 175, 176, 177, 178, 179, 180, 181, 182, 183, 184, 185, 186, 187, 188, 189, 190, 191, 192, 193, 194, 195, 196, 197, 198, 199, 200, 201, 202, 203, 204, 205, 206, 207, 213, 214, 215, 216, 217, 218, 219, 220, 221, 222, 223, 224, 225, 226, 227, 228, 229, 230, 231, 232, 233, 234, 235, 236, 237, 238, 239, 240, 241, 242, 243, 244, 245, 246, 247, 248, 249, 250, 251, 252, 253, 254] (by decide +kernel) (by decide +kernel)
set_option maxRecDepth 20000 in
theorem gX8_go_X3_live : GoodIn wsX8_go (wsV RX8 107 RX3 yX3_live wsX3_live) := goodIn_app (goodIn_of _ (by decide +kernel)) ggX8_go_X3_live
theorem dX8_go_0 : decode cX8_go 0 = .ok (.iload_n 1, 1) := by decide +kernel
theorem dX8_go_1 : decode cX8_go 1 = .ok (.iconst 1, 1) := by decide +kernel
theorem dX8_go_2 : decode cX8_go 2 = .ok (.if_icmp .lt 9, 3) := by decide +kernel
theorem dX8_go_5 : decode cX8_go 5 = .ok (.iload_n 1, 1) := by decide +kernel
theorem dX8_go_6 : decode cX8_go 6 = .ok (.bipush 100, 2) := by decide +kernel
theorem dX8_go_8 : decode cX8_go 8 = .ok (.if_icmp .le 7, 3) := by decide +kernel
theorem dX8_go_11 : decode cX8_go 11 = .ok (.sipush (-1002), 3) := by decide +kernel
theorem dX8_go_14 : decode cX8_go 14 = .ok (.ireturn, 1) := by decide +kernel
theorem dX8_go_15 : decode cX8_go 15 = .ok (.aload_n 0, 1) := by decide +kernel
theorem dX8_go_16 : decode cX8_go 16 = .ok (.invokevirtual 104, 3) := by decide +kernel
theorem dX8_go_19 : decode cX8_go 19 = .ok (.istore_n 2, 1) := by decide +kernel
theorem dX8_go_20 : decode cX8_go 20 = .ok (.iconst 0, 1) := by decide +kernel
theorem dX8_go_21 : decode cX8_go 21 = .ok (.istore_n 3, 1) := by decide +kernel
theorem dX8_go_22 : decode cX8_go 22 = .ok (.iload_n 3, 1) := by decide +kernel
theorem dX8_go_23 : decode cX8_go 23 = .ok (.iload_n 1, 1) := by decide +kernel
theorem dX8_go_24 : decode cX8_go 24 = .ok (.if_icmp .ge 41, 3) := by decide +kernel
theorem dX8_go_27 : decode cX8_go 27 = .ok (.aload_n 0, 1) := by decide +kernel
theorem dX8_go_28 : decode cX8_go 28 = .ok (.getfield 35, 3) := by decide +kernel
theorem dX8_go_31 : decode cX8_go 31 = .ok (.aload_n 0, 1) := by decide +kernel
theorem dX8_go_32 : decode cX8_go 32 = .ok (.getfield 42, 3) := by decide +kernel
theorem dX8_go_35 : decode cX8_go 35 = .ok (.invokevirtual 107, 3) := by decide +kernel
theorem dX8_go_38 : decode cX8_go 38 = .ok (.aload_n 0, 1) := by decide +kernel
theorem dX8_go_39 : decode cX8_go 39 = .ok (.getfield 39, 3) := by decide +kernel
theorem dX8_go_42 : decode cX8_go 42 = .ok (.aload_n 0, 1) := by decide +kernel
theorem dX8_go_43 : decode cX8_go 43 = .ok (.getfield 42, 3) := by decide +kernel
theorem dX8_go_46 : decode cX8_go 46 = .ok (.invokevirtual 107, 3) := by decide +kernel
theorem dX8_go_49 : decode cX8_go 49 = .ok (.aload_n 0, 1) := by decide +kernel
theorem dX8_go_50 : decode cX8_go 50 = .ok (.dup, 1) := by decide +kernel
theorem dX8_go_51 : decode cX8_go 51 = .ok (.getfield 42, 3) := by decide +kernel
theorem dX8_go_54 : decode cX8_go 54 = .ok (.iconst 1, 1) := by decide +kernel
theorem dX8_go_55 : decode cX8_go 55 = .ok (.iadd, 1) := by decide +kernel
theorem dX8_go_56 : decode cX8_go 56 = .ok (.putfield 42, 3) := by decide +kernel
theorem dX8_go_59 : decode cX8_go 59 = .ok (.iinc 3 1, 3) := by decide +kernel
theorem dX8_go_62 : decode cX8_go 62 = .ok (.goto (-40), 3) := by decide +kernel
theorem dX8_go_65 : decode cX8_go 65 = .ok (.aload_n 0, 1) := by decide +kernel
theorem dX8_go_66 : decode cX8_go 66 = .ok (.invokevirtual 104, 3) := by decide +kernel
theorem dX8_go_69 : decode cX8_go 69 = .ok (.iload_n 2, 1) := by decide +kernel
theorem dX8_go_70 : decode cX8_go 70 = .ok (.isub, 1) := by decide +kernel
theorem dX8_go_71 : decode cX8_go 71 = .ok (.ireturn, 1) := by decide +kernel
set_option maxRecDepth 20000 in
theorem ggX8_end_X8_modemAt : GoodIn wsX8_end wsX8_modemAt := goodIn_r _ [5, 6, 7, 30, 31, 32, 33, 34] (by decide +kernel) (by decide +kernel)
set_option maxRecDepth 20000 in
theorem gX8_end_X8_modemAt : GoodIn wsX8_end (wsV RX8 68 RX8 yX8_modemAt wsX8_modemAt) := goodIn_app (goodIn_of _ (by decide +kernel)) ggX8_end_X8_modemAt
set_option maxRecDepth 20000 in
theorem ggX8_end_X3_fact : GoodIn wsX8_end wsX3_fact := goodIn_r _ [12, 13, 14, 15, 16, 17, 18, 19, 20, 21, 22, 23, 24, 25, 26, 27, 28, 29, 35, 36, 37, 38, 39, 40, 41, 42, 43, 44, 45, 46, 47, 48, 49, 50, 51, 52, 53, 54, 55, 56, 57, 58, 59, 60, 61, 62] (by decide +kernel) (by decide +kernel)
set_option maxRecDepth 20000 in
theorem gX8_end_X3_fact : GoodIn wsX8_end (wsV RX8 110 RX3 yX3_fact wsX3_fact) := goodIn_app (goodIn_of _ (by decide +kernel)) ggX8_end_X3_fact
theorem dX8_end_0 : decode cX8_end 0 = .ok (.aload_n 0, 1) := by decide +kernel
theorem dX8_end_1 : decode cX8_end 1 = .ok (.iload_n 1, 1) := by decide +kernel
theorem dX8_end_2 : decode cX8_end 2 = .ok (.invokevirtual 68, 3) := by decide +kernel
theorem dX8_end_5 : decode cX8_end 5 = .ok (.astore_n 3, 1) := by decide +kernel
theorem dX8_end_6 : decode cX8_end 6 = .ok (.aload_n 3, 1) := by decide +kernel
theorem dX8_end_7 : decode cX8_end 7 = .ok (.ifnonnull 9, 3) := by decide +kernel
theorem dX8_end_10 : decode cX8_end 10 = .ok (.sipush (-1001), 3) := by decide +kernel
theorem dX8_end_13 : decode cX8_end 13 = .ok (.goto 8, 3) := by decide +kernel
theorem dX8_end_16 : decode cX8_end 16 = .ok (.aload_n 3, 1) := by decide +kernel
theorem dX8_end_17 : decode cX8_end 17 = .ok (.iload_n 2, 1) := by decide +kernel
theorem dX8_end_18 : decode cX8_end 18 = .ok (.invokevirtual 110, 3) := by decide +kernel
theorem dX8_end_21 : decode cX8_end 21 = .ok (.ireturn, 1) := by decide +kernel
set_option maxRecDepth 20000 in
theorem ggX8_band_X8_modemAt : GoodIn wsX8_band wsX8_modemAt := goodIn_r _ [6, 7, 8, 29, 30, 31, 32, 33] (by decide +kernel) (by decide +kernel)
set_option maxRecDepth 20000 in
theorem gX8_band_X8_modemAt : GoodIn wsX8_band (wsV RX8 68 RX8 yX8_modemAt wsX8_modemAt) := goodIn_app (goodIn_of _ (by decide +kernel)) ggX8_band_X8_modemAt
theorem dX8_band_0 : decode cX8_band 0 = .ok (.aload_n 0, 1) := by decide +kernel
theorem dX8_band_1 : decode cX8_band 1 = .ok (.iload_n 1, 1) := by decide +kernel
theorem dX8_band_2 : decode cX8_band 2 = .ok (.invokevirtual 68, 3) := by decide +kernel
theorem dX8_band_5 : decode cX8_band 5 = .ok (.astore_n 3, 1) := by decide +kernel
theorem dX8_band_6 : decode cX8_band 6 = .ok (.aload_n 3, 1) := by decide +kernel
theorem dX8_band_7 : decode cX8_band 7 = .ok (.ifnull 13, 3) := by decide +kernel
theorem dX8_band_10 : decode cX8_band 10 = .ok (.iload_n 2, 1) := by decide +kernel
theorem dX8_band_11 : decode cX8_band 11 = .ok (.ifCond .lt 9, 3) := by decide +kernel
theorem dX8_band_14 : decode cX8_band 14 = .ok (.iload_n 2, 1) := by decide +kernel
theorem dX8_band_15 : decode cX8_band 15 = .ok (.bipush 8, 2) := by decide +kernel
theorem dX8_band_17 : decode cX8_band 17 = .ok (.if_icmp .lt 7, 3) := by decide +kernel
theorem dX8_band_20 : decode cX8_band 20 = .ok (.sipush (-1001), 3) := by decide +kernel
theorem dX8_band_23 : decode cX8_band 23 = .ok (.ireturn, 1) := by decide +kernel
theorem dX8_band_24 : decode cX8_band 24 = .ok (.aload_n 3, 1) := by decide +kernel
theorem dX8_band_25 : decode cX8_band 25 = .ok (.getfield 113, 3) := by decide +kernel
theorem dX8_band_28 : decode cX8_band 28 = .ok (.iload_n 2, 1) := by decide +kernel
theorem dX8_band_29 : decode cX8_band 29 = .ok (.iaload, 1) := by decide +kernel
theorem dX8_band_30 : decode cX8_band 30 = .ok (.ireturn, 1) := by decide +kernel
set_option maxRecDepth 20000 in
theorem ggX8_learnt_X8_modemAt : GoodIn wsX8_learnt wsX8_modemAt := goodIn_r _ [7, 8, 9, 32, 33, 34, 35, 36] (by decide +kernel) (by decide +kernel)
set_option maxRecDepth 20000 in
theorem gX8_learnt_X8_modemAt : GoodIn wsX8_learnt (wsV RX8 68 RX8 yX8_modemAt wsX8_modemAt) := goodIn_app (goodIn_of _ (by decide +kernel)) ggX8_learnt_X8_modemAt
theorem dX8_learnt_0 : decode cX8_learnt 0 = .ok (.aload_n 0, 1) := by decide +kernel
theorem dX8_learnt_1 : decode cX8_learnt 1 = .ok (.iload_n 1, 1) := by decide +kernel
theorem dX8_learnt_2 : decode cX8_learnt 2 = .ok (.invokevirtual 68, 3) := by decide +kernel
theorem dX8_learnt_5 : decode cX8_learnt 5 = .ok (.astore_n 3, 1) := by decide +kernel
theorem dX8_learnt_6 : decode cX8_learnt 6 = .ok (.aload_n 3, 1) := by decide +kernel
theorem dX8_learnt_7 : decode cX8_learnt 7 = .ok (.ifnull 12, 3) := by decide +kernel
theorem dX8_learnt_10 : decode cX8_learnt 10 = .ok (.iload_n 2, 1) := by decide +kernel
theorem dX8_learnt_11 : decode cX8_learnt 11 = .ok (.ifCond .lt 8, 3) := by decide +kernel
theorem dX8_learnt_14 : decode cX8_learnt 14 = .ok (.iload_n 2, 1) := by decide +kernel
theorem dX8_learnt_15 : decode cX8_learnt 15 = .ok (.iconst 4, 1) := by decide +kernel
theorem dX8_learnt_16 : decode cX8_learnt 16 = .ok (.if_icmp .lt 7, 3) := by decide +kernel
theorem dX8_learnt_19 : decode cX8_learnt 19 = .ok (.sipush (-1001), 3) := by decide +kernel
theorem dX8_learnt_22 : decode cX8_learnt 22 = .ok (.ireturn, 1) := by decide +kernel
theorem dX8_learnt_23 : decode cX8_learnt 23 = .ok (.aload_n 3, 1) := by decide +kernel
theorem dX8_learnt_24 : decode cX8_learnt 24 = .ok (.getfield 86, 3) := by decide +kernel
theorem dX8_learnt_27 : decode cX8_learnt 27 = .ok (.getfield 116, 3) := by decide +kernel
theorem dX8_learnt_30 : decode cX8_learnt 30 = .ok (.iload_n 2, 1) := by decide +kernel
theorem dX8_learnt_31 : decode cX8_learnt 31 = .ok (.iaload, 1) := by decide +kernel
theorem dX8_learnt_32 : decode cX8_learnt 32 = .ok (.ireturn, 1) := by decide +kernel
set_option maxRecDepth 20000 in
theorem ggX8_got_X8_modemAt : GoodIn wsX8_got wsX8_modemAt := goodIn_r _ [7, 8, 9, 45, 46, 47, 48, 49] (by decide +kernel) (by decide +kernel)
set_option maxRecDepth 20000 in
theorem gX8_got_X8_modemAt : GoodIn wsX8_got (wsV RX8 68 RX8 yX8_modemAt wsX8_modemAt) := goodIn_app (goodIn_of _ (by decide +kernel)) ggX8_got_X8_modemAt
set_option maxRecDepth 20000 in
theorem ggX8_got_X2_takenAt : GoodIn wsX8_got wsX2_takenAt := goodIn_r _ [14, 15, 16, 37, 38, 39, 40, 41, 42, 43, 44] (by decide +kernel) (by decide +kernel)
set_option maxRecDepth 20000 in
theorem gX8_got_X2_takenAt : GoodIn wsX8_got (wsV RX8 122 RX2 yX2_takenAt wsX2_takenAt) := goodIn_app (goodIn_of _ (by decide +kernel)) ggX8_got_X2_takenAt
theorem dX8_got_0 : decode cX8_got 0 = .ok (.aload_n 0, 1) := by decide +kernel
theorem dX8_got_1 : decode cX8_got 1 = .ok (.iload_n 1, 1) := by decide +kernel
theorem dX8_got_2 : decode cX8_got 2 = .ok (.invokevirtual 68, 3) := by decide +kernel
theorem dX8_got_5 : decode cX8_got 5 = .ok (.astore_n 3, 1) := by decide +kernel
theorem dX8_got_6 : decode cX8_got 6 = .ok (.aload_n 3, 1) := by decide +kernel
theorem dX8_got_7 : decode cX8_got 7 = .ok (.ifnull 18, 3) := by decide +kernel
theorem dX8_got_10 : decode cX8_got 10 = .ok (.iload_n 2, 1) := by decide +kernel
theorem dX8_got_11 : decode cX8_got 11 = .ok (.ifCond .lt 14, 3) := by decide +kernel
theorem dX8_got_14 : decode cX8_got 14 = .ok (.iload_n 2, 1) := by decide +kernel
theorem dX8_got_15 : decode cX8_got 15 = .ok (.aload_n 3, 1) := by decide +kernel
theorem dX8_got_16 : decode cX8_got 16 = .ok (.getfield 72, 3) := by decide +kernel
theorem dX8_got_19 : decode cX8_got 19 = .ok (.getfield 119, 3) := by decide +kernel
theorem dX8_got_22 : decode cX8_got 22 = .ok (.if_icmp .lt 7, 3) := by decide +kernel
theorem dX8_got_25 : decode cX8_got 25 = .ok (.sipush (-1001), 3) := by decide +kernel
theorem dX8_got_28 : decode cX8_got 28 = .ok (.ireturn, 1) := by decide +kernel
theorem dX8_got_29 : decode cX8_got 29 = .ok (.aload_n 3, 1) := by decide +kernel
theorem dX8_got_30 : decode cX8_got 30 = .ok (.getfield 72, 3) := by decide +kernel
theorem dX8_got_33 : decode cX8_got 33 = .ok (.iload_n 2, 1) := by decide +kernel
theorem dX8_got_34 : decode cX8_got 34 = .ok (.invokevirtual 122, 3) := by decide +kernel
theorem dX8_got_37 : decode cX8_got 37 = .ok (.ireturn, 1) := by decide +kernel
set_option maxRecDepth 20000 in
theorem ggX8_heard_X8_modemAt : GoodIn wsX8_heard wsX8_modemAt := goodIn_r _ [7, 8, 9, 38, 39, 40, 41, 42] (by decide +kernel) (by decide +kernel)
set_option maxRecDepth 20000 in
theorem gX8_heard_X8_modemAt : GoodIn wsX8_heard (wsV RX8 68 RX8 yX8_modemAt wsX8_modemAt) := goodIn_app (goodIn_of _ (by decide +kernel)) ggX8_heard_X8_modemAt
theorem dX8_heard_0 : decode cX8_heard 0 = .ok (.aload_n 0, 1) := by decide +kernel
theorem dX8_heard_1 : decode cX8_heard 1 = .ok (.iload_n 1, 1) := by decide +kernel
theorem dX8_heard_2 : decode cX8_heard 2 = .ok (.invokevirtual 68, 3) := by decide +kernel
theorem dX8_heard_5 : decode cX8_heard 5 = .ok (.astore_n 3, 1) := by decide +kernel
theorem dX8_heard_6 : decode cX8_heard 6 = .ok (.aload_n 3, 1) := by decide +kernel
theorem dX8_heard_7 : decode cX8_heard 7 = .ok (.ifnonnull 7, 3) := by decide +kernel
theorem dX8_heard_10 : decode cX8_heard 10 = .ok (.sipush (-1001), 3) := by decide +kernel
theorem dX8_heard_13 : decode cX8_heard 13 = .ok (.ireturn, 1) := by decide +kernel
theorem dX8_heard_14 : decode cX8_heard 14 = .ok (.iload_n 2, 1) := by decide +kernel
theorem dX8_heard_15 : decode cX8_heard 15 = .ok (.ifCond .lt 8, 3) := by decide +kernel
theorem dX8_heard_18 : decode cX8_heard 18 = .ok (.iload_n 2, 1) := by decide +kernel
theorem dX8_heard_19 : decode cX8_heard 19 = .ok (.iconst 4, 1) := by decide +kernel
theorem dX8_heard_20 : decode cX8_heard 20 = .ok (.if_icmp .le 7, 3) := by decide +kernel
theorem dX8_heard_23 : decode cX8_heard 23 = .ok (.sipush (-1002), 3) := by decide +kernel
theorem dX8_heard_26 : decode cX8_heard 26 = .ok (.ireturn, 1) := by decide +kernel
theorem dX8_heard_27 : decode cX8_heard 27 = .ok (.aload_n 3, 1) := by decide +kernel
theorem dX8_heard_28 : decode cX8_heard 28 = .ok (.getfield 125, 3) := by decide +kernel
theorem dX8_heard_31 : decode cX8_heard 31 = .ok (.getfield 128, 3) := by decide +kernel
theorem dX8_heard_34 : decode cX8_heard 34 = .ok (.iload_n 2, 1) := by decide +kernel
theorem dX8_heard_35 : decode cX8_heard 35 = .ok (.iaload, 1) := by decide +kernel
theorem dX8_heard_36 : decode cX8_heard 36 = .ok (.ireturn, 1) := by decide +kernel
theorem dX8_about_0 : decode cX8_about 0 = .ok (.iload_n 1, 1) := by decide +kernel
theorem dX8_about_1 : decode cX8_about 1 = .ok (.bipush 10, 2) := by decide +kernel
theorem dX8_about_3 : decode cX8_about 3 = .ok (.if_icmp .lt 25, 3) := by decide +kernel
theorem dX8_about_6 : decode cX8_about 6 = .ok (.iload_n 1, 1) := by decide +kernel
theorem dX8_about_7 : decode cX8_about 7 = .ok (.bipush 18, 2) := by decide +kernel
theorem dX8_about_9 : decode cX8_about 9 = .ok (.if_icmp .ge 19, 3) := by decide +kernel
theorem dX8_about_12 : decode cX8_about 12 = .ok (.aload_n 0, 1) := by decide +kernel
theorem dX8_about_13 : decode cX8_about 13 = .ok (.getfield 19, 3) := by decide +kernel
theorem dX8_about_16 : decode cX8_about 16 = .ok (.getfield 29, 3) := by decide +kernel
theorem dX8_about_19 : decode cX8_about 19 = .ok (.getfield 133, 3) := by decide +kernel
theorem dX8_about_22 : decode cX8_about 22 = .ok (.iload_n 1, 1) := by decide +kernel
theorem dX8_about_23 : decode cX8_about 23 = .ok (.bipush 10, 2) := by decide +kernel
theorem dX8_about_25 : decode cX8_about 25 = .ok (.isub, 1) := by decide +kernel
theorem dX8_about_26 : decode cX8_about 26 = .ok (.iaload, 1) := by decide +kernel
theorem dX8_about_27 : decode cX8_about 27 = .ok (.ireturn, 1) := by decide +kernel
theorem dX8_about_28 : decode cX8_about 28 = .ok (.iload_n 1, 1) := by decide +kernel
theorem dX8_about_29 : decode cX8_about 29 = .ok (.bipush 20, 2) := by decide +kernel
theorem dX8_about_31 : decode cX8_about 31 = .ok (.if_icmp .lt 25, 3) := by decide +kernel
theorem dX8_about_34 : decode cX8_about 34 = .ok (.iload_n 1, 1) := by decide +kernel
theorem dX8_about_35 : decode cX8_about 35 = .ok (.bipush 28, 2) := by decide +kernel
theorem dX8_about_37 : decode cX8_about 37 = .ok (.if_icmp .ge 19, 3) := by decide +kernel
theorem dX8_about_40 : decode cX8_about 40 = .ok (.aload_n 0, 1) := by decide +kernel
theorem dX8_about_41 : decode cX8_about 41 = .ok (.getfield 19, 3) := by decide +kernel
theorem dX8_about_44 : decode cX8_about 44 = .ok (.getfield 25, 3) := by decide +kernel
theorem dX8_about_47 : decode cX8_about 47 = .ok (.getfield 133, 3) := by decide +kernel
theorem dX8_about_50 : decode cX8_about 50 = .ok (.iload_n 1, 1) := by decide +kernel
theorem dX8_about_51 : decode cX8_about 51 = .ok (.bipush 20, 2) := by decide +kernel
theorem dX8_about_53 : decode cX8_about 53 = .ok (.isub, 1) := by decide +kernel
theorem dX8_about_54 : decode cX8_about 54 = .ok (.iaload, 1) := by decide +kernel
theorem dX8_about_55 : decode cX8_about 55 = .ok (.ireturn, 1) := by decide +kernel
theorem dX8_about_56 : decode cX8_about 56 = .ok (.iload_n 1, 1) := by decide +kernel
theorem dX8_about_57 : decode cX8_about 57 = .ok (.tableswitch 83 0 3 #[31, 39, 50, 61], 31) := by decide +kernel
theorem dX8_about_88 : decode cX8_about 88 = .ok (.aload_n 0, 1) := by decide +kernel
theorem dX8_about_89 : decode cX8_about 89 = .ok (.getfield 19, 3) := by decide +kernel
theorem dX8_about_92 : decode cX8_about 92 = .ok (.getfield 65, 3) := by decide +kernel
theorem dX8_about_95 : decode cX8_about 95 = .ok (.ireturn, 1) := by decide +kernel
theorem dX8_about_96 : decode cX8_about 96 = .ok (.aload_n 0, 1) := by decide +kernel
theorem dX8_about_97 : decode cX8_about 97 = .ok (.getfield 19, 3) := by decide +kernel
theorem dX8_about_100 : decode cX8_about 100 = .ok (.getfield 29, 3) := by decide +kernel
theorem dX8_about_103 : decode cX8_about 103 = .ok (.getfield 136, 3) := by decide +kernel
theorem dX8_about_106 : decode cX8_about 106 = .ok (.ireturn, 1) := by decide +kernel
theorem dX8_about_107 : decode cX8_about 107 = .ok (.aload_n 0, 1) := by decide +kernel
theorem dX8_about_108 : decode cX8_about 108 = .ok (.getfield 19, 3) := by decide +kernel
theorem dX8_about_111 : decode cX8_about 111 = .ok (.getfield 25, 3) := by decide +kernel
theorem dX8_about_114 : decode cX8_about 114 = .ok (.getfield 136, 3) := by decide +kernel
theorem dX8_about_117 : decode cX8_about 117 = .ok (.ireturn, 1) := by decide +kernel
theorem dX8_about_118 : decode cX8_about 118 = .ok (.aload_n 0, 1) := by decide +kernel
theorem dX8_about_119 : decode cX8_about 119 = .ok (.getfield 19, 3) := by decide +kernel
theorem dX8_about_122 : decode cX8_about 122 = .ok (.getfield 29, 3) := by decide +kernel
theorem dX8_about_125 : decode cX8_about 125 = .ok (.getfield 139, 3) := by decide +kernel
theorem dX8_about_128 : decode cX8_about 128 = .ok (.aload_n 0, 1) := by decide +kernel
theorem dX8_about_129 : decode cX8_about 129 = .ok (.getfield 19, 3) := by decide +kernel
theorem dX8_about_132 : decode cX8_about 132 = .ok (.getfield 25, 3) := by decide +kernel
theorem dX8_about_135 : decode cX8_about 135 = .ok (.getfield 139, 3) := by decide +kernel
theorem dX8_about_138 : decode cX8_about 138 = .ok (.iadd, 1) := by decide +kernel
theorem dX8_about_139 : decode cX8_about 139 = .ok (.ireturn, 1) := by decide +kernel
theorem dX8_about_140 : decode cX8_about 140 = .ok (.sipush (-1002), 3) := by decide +kernel
theorem dX8_about_143 : decode cX8_about 143 = .ok (.ireturn, 1) := by decide +kernel
set_option maxRecDepth 20000 in
theorem ggX8_count_X8_changes : GoodIn wsX8_count wsX8_changes := goodIn_r _ [18, 10, 19, 13, 20, 21, 22, 23, 24, 39, 40, 41, 42, 43, 44, 45, 46, 47, 48, 49, 50, 51, 52, 53, 54, 55, 56, 57, 58] (by decide +kernel) (by decide +kernel)
set_option maxRecDepth 20000 in
theorem gX8_count_X8_changes : GoodIn wsX8_count (wsV RX8 104 RX8 yX8_changes wsX8_changes) := goodIn_app (goodIn_of _ (by decide +kernel)) ggX8_count_X8_changes
theorem dX8_count_0 : decode cX8_count 0 = .ok (.iload_n 1, 1) := by decide +kernel
theorem dX8_count_1 : decode cX8_count 1 = .ok (.tableswitch 143 0 8 #[51, 59, 64, 75, 86, 97, 108, 113, 121], 51) := by decide +kernel
theorem dX8_count_52 : decode cX8_count 52 = .ok (.aload_n 0, 1) := by decide +kernel
theorem dX8_count_53 : decode cX8_count 53 = .ok (.getfield 13, 3) := by decide +kernel
theorem dX8_count_56 : decode cX8_count 56 = .ok (.getfield 46, 3) := by decide +kernel
theorem dX8_count_59 : decode cX8_count 59 = .ok (.ireturn, 1) := by decide +kernel
theorem dX8_count_60 : decode cX8_count 60 = .ok (.aload_n 0, 1) := by decide +kernel
theorem dX8_count_61 : decode cX8_count 61 = .ok (.getfield 42, 3) := by decide +kernel
theorem dX8_count_64 : decode cX8_count 64 = .ok (.ireturn, 1) := by decide +kernel
theorem dX8_count_65 : decode cX8_count 65 = .ok (.aload_n 0, 1) := by decide +kernel
theorem dX8_count_66 : decode cX8_count 66 = .ok (.getfield 19, 3) := by decide +kernel
theorem dX8_count_69 : decode cX8_count 69 = .ok (.getfield 29, 3) := by decide +kernel
theorem dX8_count_72 : decode cX8_count 72 = .ok (.getfield 142, 3) := by decide +kernel
theorem dX8_count_75 : decode cX8_count 75 = .ok (.ireturn, 1) := by decide +kernel
theorem dX8_count_76 : decode cX8_count 76 = .ok (.aload_n 0, 1) := by decide +kernel
theorem dX8_count_77 : decode cX8_count 77 = .ok (.getfield 19, 3) := by decide +kernel
theorem dX8_count_80 : decode cX8_count 80 = .ok (.getfield 25, 3) := by decide +kernel
theorem dX8_count_83 : decode cX8_count 83 = .ok (.getfield 142, 3) := by decide +kernel
theorem dX8_count_86 : decode cX8_count 86 = .ok (.ireturn, 1) := by decide +kernel
theorem dX8_count_87 : decode cX8_count 87 = .ok (.aload_n 0, 1) := by decide +kernel
theorem dX8_count_88 : decode cX8_count 88 = .ok (.getfield 19, 3) := by decide +kernel
theorem dX8_count_91 : decode cX8_count 91 = .ok (.getfield 29, 3) := by decide +kernel
theorem dX8_count_94 : decode cX8_count 94 = .ok (.getfield 145, 3) := by decide +kernel
theorem dX8_count_97 : decode cX8_count 97 = .ok (.ireturn, 1) := by decide +kernel
theorem dX8_count_98 : decode cX8_count 98 = .ok (.aload_n 0, 1) := by decide +kernel
theorem dX8_count_99 : decode cX8_count 99 = .ok (.getfield 19, 3) := by decide +kernel
theorem dX8_count_102 : decode cX8_count 102 = .ok (.getfield 25, 3) := by decide +kernel
theorem dX8_count_105 : decode cX8_count 105 = .ok (.getfield 145, 3) := by decide +kernel
theorem dX8_count_108 : decode cX8_count 108 = .ok (.ireturn, 1) := by decide +kernel
theorem dX8_count_109 : decode cX8_count 109 = .ok (.aload_n 0, 1) := by decide +kernel
theorem dX8_count_110 : decode cX8_count 110 = .ok (.invokevirtual 104, 3) := by decide +kernel
theorem dX8_count_113 : decode cX8_count 113 = .ok (.ireturn, 1) := by decide +kernel
theorem dX8_count_114 : decode cX8_count 114 = .ok (.aload_n 0, 1) := by decide +kernel
theorem dX8_count_115 : decode cX8_count 115 = .ok (.getfield 19, 3) := by decide +kernel
theorem dX8_count_118 : decode cX8_count 118 = .ok (.getfield 148, 3) := by decide +kernel
theorem dX8_count_121 : decode cX8_count 121 = .ok (.ireturn, 1) := by decide +kernel
theorem dX8_count_122 : decode cX8_count 122 = .ok (.aload_n 0, 1) := by decide +kernel
theorem dX8_count_123 : decode cX8_count 123 = .ok (.getfield 35, 3) := by decide +kernel
theorem dX8_count_126 : decode cX8_count 126 = .ok (.getfield 72, 3) := by decide +kernel
theorem dX8_count_129 : decode cX8_count 129 = .ok (.getfield 151, 3) := by decide +kernel
theorem dX8_count_132 : decode cX8_count 132 = .ok (.aload_n 0, 1) := by decide +kernel
theorem dX8_count_133 : decode cX8_count 133 = .ok (.getfield 39, 3) := by decide +kernel
theorem dX8_count_136 : decode cX8_count 136 = .ok (.getfield 72, 3) := by decide +kernel
theorem dX8_count_139 : decode cX8_count 139 = .ok (.getfield 151, 3) := by decide +kernel
theorem dX8_count_142 : decode cX8_count 142 = .ok (.iadd, 1) := by decide +kernel
theorem dX8_count_143 : decode cX8_count 143 = .ok (.ireturn, 1) := by decide +kernel
theorem dX8_count_144 : decode cX8_count 144 = .ok (.sipush (-1002), 3) := by decide +kernel
theorem dX8_count_147 : decode cX8_count 147 = .ok (.ireturn, 1) := by decide +kernel
set_option maxRecDepth 20000 in
theorem ggX8_digest_X8_digestOfEnd : GoodIn wsX8_digest wsX8_digestOfEnd := goodIn_r _ [9, 2, 10, 11, 12, 13, 14, 15, 16, 17, 18, 19, 20, 8, 21, 22, 23, 24, 25, 26, 27, 28, 29, 30, 31, 32, 33, 34, 35, 36, 37, 38, 39, 40, 41, 42, 43, 44, 45, 46, 47, 48, 49, 50, 51, 52, 92, 93, 94, 95, 96, 97, 98, 99, 100, 101, 102, 103, 104, 105, 106, 107, 108, 109, 110, 111, 112, 113, 114, 115, 116, 117, 118, 119, 120, 121, 122, 123, 124, 125, 126, 127, 128, 129, 85, 86, 87, 88, 89] (by decide +kernel) (by decide +kernel)
set_option maxRecDepth 20000 in
theorem gX8_digest_X8_digestOfEnd : GoodIn wsX8_digest (wsV RX8 156 RX8 yX8_digestOfEnd wsX8_digestOfEnd) := goodIn_app (goodIn_of _ (by decide +kernel)) ggX8_digest_X8_digestOfEnd
set_option maxRecDepth 20000 in
theorem ggX8_digest_X8_about : GoodIn wsX8_digest wsX8_about := goodIn_r _ [56, 57, 58, 59, 60, 61, 62, 63, 85, 86, 87, 88, 89, 130, 131, 132, 133, 114, 115, 116, 117, 118, 119, 120, 121] (by decide +kernel) (by decide +kernel)
set_option maxRecDepth 20000 in
theorem gX8_digest_X8_about : GoodIn wsX8_digest (wsV RX8 162 RX8 yX8_about wsX8_about) := goodIn_app (goodIn_of _ (by decide +kernel)) ggX8_digest_X8_about
set_option maxRecDepth 20000 in
theorem ggX8_digest_X4_codeAt : GoodIn wsX8_digest wsX4_codeAt := goodIn_r _ [68, 69, 70, 90, 91] (by decide +kernel) (by decide +kernel)
set_option maxRecDepth 20000 in
theorem gX8_digest_X4_codeAt : GoodIn wsX8_digest (wsV RX8 81 RX4 yX4_codeAt wsX4_codeAt) := goodIn_app (goodIn_of _ (by decide +kernel)) ggX8_digest_X4_codeAt
set_option maxRecDepth 20000 in
theorem ggX8_digest_X8_count : GoodIn wsX8_digest wsX8_count := goodIn_r _ [74, 3, 4, 75, 57, 58, 76, 60, 77, 78, 22, 16, 79, 23, 80, 81, 82, 8, 83, 84, 85, 86, 87, 88, 89, 90, 91, 130, 131, 132, 133, 114, 115, 116, 117, 118, 119, 120, 121, 92, 93, 94, 95, 96, 97, 98, 99, 100, 101, 102, 103, 104, 105, 106, 107, 108, 109, 110, 111, 122, 123, 124, 125, 126, 127, 128, 129] (by decide +kernel) (by decide +kernel)
set_option maxRecDepth 20000 in
theorem gX8_digest_X8_count : GoodIn wsX8_digest (wsV RX8 165 RX8 yX8_count wsX8_count) := goodIn_app (goodIn_of _ (by decide +kernel)) ggX8_digest_X8_count
theorem dX8_digest_0 : decode cX8_digest 0 = .ok (.aload_n 0, 1) := by decide +kernel
theorem dX8_digest_1 : decode cX8_digest 1 = .ok (.iconst 1, 1) := by decide +kernel
theorem dX8_digest_2 : decode cX8_digest 2 = .ok (.aload_n 0, 1) := by decide +kernel
theorem dX8_digest_3 : decode cX8_digest 3 = .ok (.iconst 0, 1) := by decide +kernel
theorem dX8_digest_4 : decode cX8_digest 4 = .ok (.ldc2_w 154, 3) := by decide +kernel
theorem dX8_digest_7 : decode cX8_digest 7 = .ok (.invokevirtual 156, 3) := by decide +kernel
theorem dX8_digest_10 : decode cX8_digest 10 = .ok (.invokevirtual 156, 3) := by decide +kernel
theorem dX8_digest_13 : decode cX8_digest 13 = .ok (.lstore_n 1, 1) := by decide +kernel
theorem dX8_digest_14 : decode cX8_digest 14 = .ok (.iconst 0, 1) := by decide +kernel
theorem dX8_digest_15 : decode cX8_digest 15 = .ok (.istore_n 3, 1) := by decide +kernel
theorem dX8_digest_16 : decode cX8_digest 16 = .ok (.iload_n 3, 1) := by decide +kernel
theorem dX8_digest_17 : decode cX8_digest 17 = .ok (.iconst 4, 1) := by decide +kernel
theorem dX8_digest_18 : decode cX8_digest 18 = .ok (.if_icmp .ge 22, 3) := by decide +kernel
theorem dX8_digest_21 : decode cX8_digest 21 = .ok (.ldc2_w 160, 3) := by decide +kernel
theorem dX8_digest_24 : decode cX8_digest 24 = .ok (.lload_n 1, 1) := by decide +kernel
theorem dX8_digest_25 : decode cX8_digest 25 = .ok (.lmul, 1) := by decide +kernel
theorem dX8_digest_26 : decode cX8_digest 26 = .ok (.aload_n 0, 1) := by decide +kernel
theorem dX8_digest_27 : decode cX8_digest 27 = .ok (.iload_n 3, 1) := by decide +kernel
theorem dX8_digest_28 : decode cX8_digest 28 = .ok (.invokevirtual 162, 3) := by decide +kernel
theorem dX8_digest_31 : decode cX8_digest 31 = .ok (.i2l, 1) := by decide +kernel
theorem dX8_digest_32 : decode cX8_digest 32 = .ok (.ladd, 1) := by decide +kernel
theorem dX8_digest_33 : decode cX8_digest 33 = .ok (.lstore_n 1, 1) := by decide +kernel
theorem dX8_digest_34 : decode cX8_digest 34 = .ok (.iinc 3 1, 3) := by decide +kernel
theorem dX8_digest_37 : decode cX8_digest 37 = .ok (.goto (-21), 3) := by decide +kernel
theorem dX8_digest_40 : decode cX8_digest 40 = .ok (.bipush 10, 2) := by decide +kernel
theorem dX8_digest_42 : decode cX8_digest 42 = .ok (.istore_n 3, 1) := by decide +kernel
theorem dX8_digest_43 : decode cX8_digest 43 = .ok (.iload_n 3, 1) := by decide +kernel
theorem dX8_digest_44 : decode cX8_digest 44 = .ok (.bipush 18, 2) := by decide +kernel
theorem dX8_digest_46 : decode cX8_digest 46 = .ok (.if_icmp .ge 22, 3) := by decide +kernel
theorem dX8_digest_49 : decode cX8_digest 49 = .ok (.ldc2_w 160, 3) := by decide +kernel
theorem dX8_digest_52 : decode cX8_digest 52 = .ok (.lload_n 1, 1) := by decide +kernel
theorem dX8_digest_53 : decode cX8_digest 53 = .ok (.lmul, 1) := by decide +kernel
theorem dX8_digest_54 : decode cX8_digest 54 = .ok (.aload_n 0, 1) := by decide +kernel
theorem dX8_digest_55 : decode cX8_digest 55 = .ok (.iload_n 3, 1) := by decide +kernel
theorem dX8_digest_56 : decode cX8_digest 56 = .ok (.invokevirtual 162, 3) := by decide +kernel
theorem dX8_digest_59 : decode cX8_digest 59 = .ok (.i2l, 1) := by decide +kernel
theorem dX8_digest_60 : decode cX8_digest 60 = .ok (.ladd, 1) := by decide +kernel
theorem dX8_digest_61 : decode cX8_digest 61 = .ok (.lstore_n 1, 1) := by decide +kernel
theorem dX8_digest_62 : decode cX8_digest 62 = .ok (.iinc 3 1, 3) := by decide +kernel
theorem dX8_digest_65 : decode cX8_digest 65 = .ok (.goto (-22), 3) := by decide +kernel
theorem dX8_digest_68 : decode cX8_digest 68 = .ok (.bipush 20, 2) := by decide +kernel
theorem dX8_digest_70 : decode cX8_digest 70 = .ok (.istore_n 3, 1) := by decide +kernel
theorem dX8_digest_71 : decode cX8_digest 71 = .ok (.iload_n 3, 1) := by decide +kernel
theorem dX8_digest_72 : decode cX8_digest 72 = .ok (.bipush 28, 2) := by decide +kernel
theorem dX8_digest_74 : decode cX8_digest 74 = .ok (.if_icmp .ge 22, 3) := by decide +kernel
theorem dX8_digest_77 : decode cX8_digest 77 = .ok (.ldc2_w 160, 3) := by decide +kernel
theorem dX8_digest_80 : decode cX8_digest 80 = .ok (.lload_n 1, 1) := by decide +kernel
theorem dX8_digest_81 : decode cX8_digest 81 = .ok (.lmul, 1) := by decide +kernel
theorem dX8_digest_82 : decode cX8_digest 82 = .ok (.aload_n 0, 1) := by decide +kernel
theorem dX8_digest_83 : decode cX8_digest 83 = .ok (.iload_n 3, 1) := by decide +kernel
theorem dX8_digest_84 : decode cX8_digest 84 = .ok (.invokevirtual 162, 3) := by decide +kernel
theorem dX8_digest_87 : decode cX8_digest 87 = .ok (.i2l, 1) := by decide +kernel
theorem dX8_digest_88 : decode cX8_digest 88 = .ok (.ladd, 1) := by decide +kernel
theorem dX8_digest_89 : decode cX8_digest 89 = .ok (.lstore_n 1, 1) := by decide +kernel
theorem dX8_digest_90 : decode cX8_digest 90 = .ok (.iinc 3 1, 3) := by decide +kernel
theorem dX8_digest_93 : decode cX8_digest 93 = .ok (.goto (-22), 3) := by decide +kernel
theorem dX8_digest_96 : decode cX8_digest 96 = .ok (.iconst 0, 1) := by decide +kernel
theorem dX8_digest_97 : decode cX8_digest 97 = .ok (.istore_n 3, 1) := by decide +kernel
theorem dX8_digest_98 : decode cX8_digest 98 = .ok (.iload_n 3, 1) := by decide +kernel
theorem dX8_digest_99 : decode cX8_digest 99 = .ok (.aload_n 0, 1) := by decide +kernel
theorem dX8_digest_100 : decode cX8_digest 100 = .ok (.getfield 13, 3) := by decide +kernel
theorem dX8_digest_103 : decode cX8_digest 103 = .ok (.getfield 46, 3) := by decide +kernel
theorem dX8_digest_106 : decode cX8_digest 106 = .ok (.if_icmp .ge 25, 3) := by decide +kernel
theorem dX8_digest_109 : decode cX8_digest 109 = .ok (.ldc2_w 160, 3) := by decide +kernel
theorem dX8_digest_112 : decode cX8_digest 112 = .ok (.lload_n 1, 1) := by decide +kernel
theorem dX8_digest_113 : decode cX8_digest 113 = .ok (.lmul, 1) := by decide +kernel
theorem dX8_digest_114 : decode cX8_digest 114 = .ok (.aload_n 0, 1) := by decide +kernel
theorem dX8_digest_115 : decode cX8_digest 115 = .ok (.getfield 13, 3) := by decide +kernel
theorem dX8_digest_118 : decode cX8_digest 118 = .ok (.iload_n 3, 1) := by decide +kernel
theorem dX8_digest_119 : decode cX8_digest 119 = .ok (.invokevirtual 81, 3) := by decide +kernel
theorem dX8_digest_122 : decode cX8_digest 122 = .ok (.i2l, 1) := by decide +kernel
theorem dX8_digest_123 : decode cX8_digest 123 = .ok (.ladd, 1) := by decide +kernel
theorem dX8_digest_124 : decode cX8_digest 124 = .ok (.lstore_n 1, 1) := by decide +kernel
theorem dX8_digest_125 : decode cX8_digest 125 = .ok (.iinc 3 1, 3) := by decide +kernel
theorem dX8_digest_128 : decode cX8_digest 128 = .ok (.goto (-30), 3) := by decide +kernel
theorem dX8_digest_131 : decode cX8_digest 131 = .ok (.iconst 0, 1) := by decide +kernel
theorem dX8_digest_132 : decode cX8_digest 132 = .ok (.istore_n 3, 1) := by decide +kernel
theorem dX8_digest_133 : decode cX8_digest 133 = .ok (.iload_n 3, 1) := by decide +kernel
theorem dX8_digest_134 : decode cX8_digest 134 = .ok (.bipush 9, 2) := by decide +kernel
theorem dX8_digest_136 : decode cX8_digest 136 = .ok (.if_icmp .ge 22, 3) := by decide +kernel
theorem dX8_digest_139 : decode cX8_digest 139 = .ok (.ldc2_w 160, 3) := by decide +kernel
theorem dX8_digest_142 : decode cX8_digest 142 = .ok (.lload_n 1, 1) := by decide +kernel
theorem dX8_digest_143 : decode cX8_digest 143 = .ok (.lmul, 1) := by decide +kernel
theorem dX8_digest_144 : decode cX8_digest 144 = .ok (.aload_n 0, 1) := by decide +kernel
theorem dX8_digest_145 : decode cX8_digest 145 = .ok (.iload_n 3, 1) := by decide +kernel
theorem dX8_digest_146 : decode cX8_digest 146 = .ok (.invokevirtual 165, 3) := by decide +kernel
theorem dX8_digest_149 : decode cX8_digest 149 = .ok (.i2l, 1) := by decide +kernel
theorem dX8_digest_150 : decode cX8_digest 150 = .ok (.ladd, 1) := by decide +kernel
theorem dX8_digest_151 : decode cX8_digest 151 = .ok (.lstore_n 1, 1) := by decide +kernel
theorem dX8_digest_152 : decode cX8_digest 152 = .ok (.iinc 3 1, 3) := by decide +kernel
theorem dX8_digest_155 : decode cX8_digest 155 = .ok (.goto (-22), 3) := by decide +kernel
theorem dX8_digest_158 : decode cX8_digest 158 = .ok (.lload_n 1, 1) := by decide +kernel
theorem dX8_digest_159 : decode cX8_digest 159 = .ok (.lreturn, 1) := by decide +kernel
set_option maxRecDepth 20000 in
theorem ggX8_digestOfEnd_X8_modemAt : GoodIn wsX8_digestOfEnd wsX8_modemAt := goodIn_r _ [14, 15, 16, 84, 85, 86, 87, 88] (by decide +kernel) (by decide +kernel)
set_option maxRecDepth 20000 in
theorem gX8_digestOfEnd_X8_modemAt : GoodIn wsX8_digestOfEnd (wsV RX8 68 RX8 yX8_modemAt wsX8_modemAt) := goodIn_app (goodIn_of _ (by decide +kernel)) ggX8_digestOfEnd_X8_modemAt
set_option maxRecDepth 20000 in
theorem ggX8_digestOfEnd_X3_fact : GoodIn wsX8_digestOfEnd wsX3_fact := goodIn_r _ [21, 22, 23, 24, 25, 26, 27, 28, 29, 30, 31, 32, 33, 34, 35, 36, 37, 38, 46, 47, 48, 49, 50, 51, 52, 53, 54, 55, 56, 57, 58, 59, 60, 61, 62, 63, 64, 65, 76, 77, 78, 79, 80, 81, 82, 83] (by decide +kernel) (by decide +kernel)
set_option maxRecDepth 20000 in
theorem gX8_digestOfEnd_X3_fact : GoodIn wsX8_digestOfEnd (wsV RX8 110 RX3 yX3_fact wsX3_fact) := goodIn_app (goodIn_of _ (by decide +kernel)) ggX8_digestOfEnd_X3_fact
set_option maxRecDepth 20000 in
theorem ggX8_digestOfEnd_X2_takenAt : GoodIn wsX8_digestOfEnd wsX2_takenAt := goodIn_r _ [43, 44, 45, 76, 77, 78, 79, 80, 81, 82, 83] (by decide +kernel) (by decide +kernel)
set_option maxRecDepth 20000 in
theorem gX8_digestOfEnd_X2_takenAt : GoodIn wsX8_digestOfEnd (wsV RX8 122 RX2 yX2_takenAt wsX2_takenAt) := goodIn_app (goodIn_of _ (by decide +kernel)) ggX8_digestOfEnd_X2_takenAt
theorem dX8_digestOfEnd_0 : decode cX8_digestOfEnd 0 = .ok (.aload_n 0, 1) := by decide +kernel
theorem dX8_digestOfEnd_1 : decode cX8_digestOfEnd 1 = .ok (.iload_n 1, 1) := by decide +kernel
theorem dX8_digestOfEnd_2 : decode cX8_digestOfEnd 2 = .ok (.invokevirtual 68, 3) := by decide +kernel
theorem dX8_digestOfEnd_5 : decode cX8_digestOfEnd 5 = .ok (.astore 4, 2) := by decide +kernel
theorem dX8_digestOfEnd_7 : decode cX8_digestOfEnd 7 = .ok (.aload 4, 2) := by decide +kernel
theorem dX8_digestOfEnd_9 : decode cX8_digestOfEnd 9 = .ok (.ifnonnull 5, 3) := by decide +kernel
theorem dX8_digestOfEnd_12 : decode cX8_digestOfEnd 12 = .ok (.lload_n 2, 1) := by decide +kernel
theorem dX8_digestOfEnd_13 : decode cX8_digestOfEnd 13 = .ok (.lreturn, 1) := by decide +kernel
theorem dX8_digestOfEnd_14 : decode cX8_digestOfEnd 14 = .ok (.lload_n 2, 1) := by decide +kernel
theorem dX8_digestOfEnd_15 : decode cX8_digestOfEnd 15 = .ok (.lstore 5, 2) := by decide +kernel
theorem dX8_digestOfEnd_17 : decode cX8_digestOfEnd 17 = .ok (.iconst 0, 1) := by decide +kernel
theorem dX8_digestOfEnd_18 : decode cX8_digestOfEnd 18 = .ok (.istore 7, 2) := by decide +kernel
theorem dX8_digestOfEnd_20 : decode cX8_digestOfEnd 20 = .ok (.iload 7, 2) := by decide +kernel
theorem dX8_digestOfEnd_22 : decode cX8_digestOfEnd 22 = .ok (.bipush 16, 2) := by decide +kernel
theorem dX8_digestOfEnd_24 : decode cX8_digestOfEnd 24 = .ok (.if_icmp .ge 26, 3) := by decide +kernel
theorem dX8_digestOfEnd_27 : decode cX8_digestOfEnd 27 = .ok (.ldc2_w 160, 3) := by decide +kernel
theorem dX8_digestOfEnd_30 : decode cX8_digestOfEnd 30 = .ok (.lload 5, 2) := by decide +kernel
theorem dX8_digestOfEnd_32 : decode cX8_digestOfEnd 32 = .ok (.lmul, 1) := by decide +kernel
theorem dX8_digestOfEnd_33 : decode cX8_digestOfEnd 33 = .ok (.aload 4, 2) := by decide +kernel
theorem dX8_digestOfEnd_35 : decode cX8_digestOfEnd 35 = .ok (.iload 7, 2) := by decide +kernel
theorem dX8_digestOfEnd_37 : decode cX8_digestOfEnd 37 = .ok (.invokevirtual 110, 3) := by decide +kernel
theorem dX8_digestOfEnd_40 : decode cX8_digestOfEnd 40 = .ok (.i2l, 1) := by decide +kernel
theorem dX8_digestOfEnd_41 : decode cX8_digestOfEnd 41 = .ok (.ladd, 1) := by decide +kernel
theorem dX8_digestOfEnd_42 : decode cX8_digestOfEnd 42 = .ok (.lstore 5, 2) := by decide +kernel
theorem dX8_digestOfEnd_44 : decode cX8_digestOfEnd 44 = .ok (.iinc 7 1, 3) := by decide +kernel
theorem dX8_digestOfEnd_47 : decode cX8_digestOfEnd 47 = .ok (.goto (-27), 3) := by decide +kernel
theorem dX8_digestOfEnd_50 : decode cX8_digestOfEnd 50 = .ok (.iconst 0, 1) := by decide +kernel
theorem dX8_digestOfEnd_51 : decode cX8_digestOfEnd 51 = .ok (.istore 7, 2) := by decide +kernel
theorem dX8_digestOfEnd_53 : decode cX8_digestOfEnd 53 = .ok (.iload 7, 2) := by decide +kernel
theorem dX8_digestOfEnd_55 : decode cX8_digestOfEnd 55 = .ok (.bipush 8, 2) := by decide +kernel
theorem dX8_digestOfEnd_57 : decode cX8_digestOfEnd 57 = .ok (.if_icmp .ge 27, 3) := by decide +kernel
theorem dX8_digestOfEnd_60 : decode cX8_digestOfEnd 60 = .ok (.ldc2_w 160, 3) := by decide +kernel
theorem dX8_digestOfEnd_63 : decode cX8_digestOfEnd 63 = .ok (.lload 5, 2) := by decide +kernel
theorem dX8_digestOfEnd_65 : decode cX8_digestOfEnd 65 = .ok (.lmul, 1) := by decide +kernel
theorem dX8_digestOfEnd_66 : decode cX8_digestOfEnd 66 = .ok (.aload 4, 2) := by decide +kernel
theorem dX8_digestOfEnd_68 : decode cX8_digestOfEnd 68 = .ok (.getfield 113, 3) := by decide +kernel
theorem dX8_digestOfEnd_71 : decode cX8_digestOfEnd 71 = .ok (.iload 7, 2) := by decide +kernel
theorem dX8_digestOfEnd_73 : decode cX8_digestOfEnd 73 = .ok (.iaload, 1) := by decide +kernel
theorem dX8_digestOfEnd_74 : decode cX8_digestOfEnd 74 = .ok (.i2l, 1) := by decide +kernel
theorem dX8_digestOfEnd_75 : decode cX8_digestOfEnd 75 = .ok (.ladd, 1) := by decide +kernel
theorem dX8_digestOfEnd_76 : decode cX8_digestOfEnd 76 = .ok (.lstore 5, 2) := by decide +kernel
theorem dX8_digestOfEnd_78 : decode cX8_digestOfEnd 78 = .ok (.iinc 7 1, 3) := by decide +kernel
theorem dX8_digestOfEnd_81 : decode cX8_digestOfEnd 81 = .ok (.goto (-28), 3) := by decide +kernel
theorem dX8_digestOfEnd_84 : decode cX8_digestOfEnd 84 = .ok (.iconst 0, 1) := by decide +kernel
theorem dX8_digestOfEnd_85 : decode cX8_digestOfEnd 85 = .ok (.istore 7, 2) := by decide +kernel
theorem dX8_digestOfEnd_87 : decode cX8_digestOfEnd 87 = .ok (.iload 7, 2) := by decide +kernel
theorem dX8_digestOfEnd_89 : decode cX8_digestOfEnd 89 = .ok (.iconst 4, 1) := by decide +kernel
theorem dX8_digestOfEnd_90 : decode cX8_digestOfEnd 90 = .ok (.if_icmp .ge 30, 3) := by decide +kernel
theorem dX8_digestOfEnd_93 : decode cX8_digestOfEnd 93 = .ok (.ldc2_w 160, 3) := by decide +kernel
theorem dX8_digestOfEnd_96 : decode cX8_digestOfEnd 96 = .ok (.lload 5, 2) := by decide +kernel
theorem dX8_digestOfEnd_98 : decode cX8_digestOfEnd 98 = .ok (.lmul, 1) := by decide +kernel
theorem dX8_digestOfEnd_99 : decode cX8_digestOfEnd 99 = .ok (.aload 4, 2) := by decide +kernel
theorem dX8_digestOfEnd_101 : decode cX8_digestOfEnd 101 = .ok (.getfield 86, 3) := by decide +kernel
theorem dX8_digestOfEnd_104 : decode cX8_digestOfEnd 104 = .ok (.getfield 116, 3) := by decide +kernel
theorem dX8_digestOfEnd_107 : decode cX8_digestOfEnd 107 = .ok (.iload 7, 2) := by decide +kernel
theorem dX8_digestOfEnd_109 : decode cX8_digestOfEnd 109 = .ok (.iaload, 1) := by decide +kernel
theorem dX8_digestOfEnd_110 : decode cX8_digestOfEnd 110 = .ok (.i2l, 1) := by decide +kernel
theorem dX8_digestOfEnd_111 : decode cX8_digestOfEnd 111 = .ok (.ladd, 1) := by decide +kernel
theorem dX8_digestOfEnd_112 : decode cX8_digestOfEnd 112 = .ok (.lstore 5, 2) := by decide +kernel
theorem dX8_digestOfEnd_114 : decode cX8_digestOfEnd 114 = .ok (.iinc 7 1, 3) := by decide +kernel
theorem dX8_digestOfEnd_117 : decode cX8_digestOfEnd 117 = .ok (.goto (-30), 3) := by decide +kernel
theorem dX8_digestOfEnd_120 : decode cX8_digestOfEnd 120 = .ok (.iconst 0, 1) := by decide +kernel
theorem dX8_digestOfEnd_121 : decode cX8_digestOfEnd 121 = .ok (.istore 7, 2) := by decide +kernel
theorem dX8_digestOfEnd_123 : decode cX8_digestOfEnd 123 = .ok (.iload 7, 2) := by decide +kernel
theorem dX8_digestOfEnd_125 : decode cX8_digestOfEnd 125 = .ok (.iconst 4, 1) := by decide +kernel
theorem dX8_digestOfEnd_126 : decode cX8_digestOfEnd 126 = .ok (.if_icmp .ge 30, 3) := by decide +kernel
theorem dX8_digestOfEnd_129 : decode cX8_digestOfEnd 129 = .ok (.ldc2_w 160, 3) := by decide +kernel
theorem dX8_digestOfEnd_132 : decode cX8_digestOfEnd 132 = .ok (.lload 5, 2) := by decide +kernel
theorem dX8_digestOfEnd_134 : decode cX8_digestOfEnd 134 = .ok (.lmul, 1) := by decide +kernel
theorem dX8_digestOfEnd_135 : decode cX8_digestOfEnd 135 = .ok (.aload 4, 2) := by decide +kernel
theorem dX8_digestOfEnd_137 : decode cX8_digestOfEnd 137 = .ok (.getfield 86, 3) := by decide +kernel
theorem dX8_digestOfEnd_140 : decode cX8_digestOfEnd 140 = .ok (.getfield 90, 3) := by decide +kernel
theorem dX8_digestOfEnd_143 : decode cX8_digestOfEnd 143 = .ok (.iload 7, 2) := by decide +kernel
theorem dX8_digestOfEnd_145 : decode cX8_digestOfEnd 145 = .ok (.iaload, 1) := by decide +kernel
theorem dX8_digestOfEnd_146 : decode cX8_digestOfEnd 146 = .ok (.i2l, 1) := by decide +kernel
theorem dX8_digestOfEnd_147 : decode cX8_digestOfEnd 147 = .ok (.ladd, 1) := by decide +kernel
theorem dX8_digestOfEnd_148 : decode cX8_digestOfEnd 148 = .ok (.lstore 5, 2) := by decide +kernel
theorem dX8_digestOfEnd_150 : decode cX8_digestOfEnd 150 = .ok (.iinc 7 1, 3) := by decide +kernel
theorem dX8_digestOfEnd_153 : decode cX8_digestOfEnd 153 = .ok (.goto (-30), 3) := by decide +kernel
theorem dX8_digestOfEnd_156 : decode cX8_digestOfEnd 156 = .ok (.iconst 0, 1) := by decide +kernel
theorem dX8_digestOfEnd_157 : decode cX8_digestOfEnd 157 = .ok (.istore 7, 2) := by decide +kernel
theorem dX8_digestOfEnd_159 : decode cX8_digestOfEnd 159 = .ok (.iload 7, 2) := by decide +kernel
theorem dX8_digestOfEnd_161 : decode cX8_digestOfEnd 161 = .ok (.iconst 5, 1) := by decide +kernel
theorem dX8_digestOfEnd_162 : decode cX8_digestOfEnd 162 = .ok (.if_icmp .ge 30, 3) := by decide +kernel
theorem dX8_digestOfEnd_165 : decode cX8_digestOfEnd 165 = .ok (.ldc2_w 160, 3) := by decide +kernel
theorem dX8_digestOfEnd_168 : decode cX8_digestOfEnd 168 = .ok (.lload 5, 2) := by decide +kernel
theorem dX8_digestOfEnd_170 : decode cX8_digestOfEnd 170 = .ok (.lmul, 1) := by decide +kernel
theorem dX8_digestOfEnd_171 : decode cX8_digestOfEnd 171 = .ok (.aload 4, 2) := by decide +kernel
theorem dX8_digestOfEnd_173 : decode cX8_digestOfEnd 173 = .ok (.getfield 125, 3) := by decide +kernel
theorem dX8_digestOfEnd_176 : decode cX8_digestOfEnd 176 = .ok (.getfield 128, 3) := by decide +kernel
theorem dX8_digestOfEnd_179 : decode cX8_digestOfEnd 179 = .ok (.iload 7, 2) := by decide +kernel
theorem dX8_digestOfEnd_181 : decode cX8_digestOfEnd 181 = .ok (.iaload, 1) := by decide +kernel
theorem dX8_digestOfEnd_182 : decode cX8_digestOfEnd 182 = .ok (.i2l, 1) := by decide +kernel
theorem dX8_digestOfEnd_183 : decode cX8_digestOfEnd 183 = .ok (.ladd, 1) := by decide +kernel
theorem dX8_digestOfEnd_184 : decode cX8_digestOfEnd 184 = .ok (.lstore 5, 2) := by decide +kernel
theorem dX8_digestOfEnd_186 : decode cX8_digestOfEnd 186 = .ok (.iinc 7 1, 3) := by decide +kernel
theorem dX8_digestOfEnd_189 : decode cX8_digestOfEnd 189 = .ok (.goto (-30), 3) := by decide +kernel
theorem dX8_digestOfEnd_192 : decode cX8_digestOfEnd 192 = .ok (.iconst 0, 1) := by decide +kernel
theorem dX8_digestOfEnd_193 : decode cX8_digestOfEnd 193 = .ok (.istore 7, 2) := by decide +kernel
theorem dX8_digestOfEnd_195 : decode cX8_digestOfEnd 195 = .ok (.iload 7, 2) := by decide +kernel
theorem dX8_digestOfEnd_197 : decode cX8_digestOfEnd 197 = .ok (.aload 4, 2) := by decide +kernel
theorem dX8_digestOfEnd_199 : decode cX8_digestOfEnd 199 = .ok (.getfield 72, 3) := by decide +kernel
theorem dX8_digestOfEnd_202 : decode cX8_digestOfEnd 202 = .ok (.getfield 119, 3) := by decide +kernel
theorem dX8_digestOfEnd_205 : decode cX8_digestOfEnd 205 = .ok (.if_icmp .ge 29, 3) := by decide +kernel
theorem dX8_digestOfEnd_208 : decode cX8_digestOfEnd 208 = .ok (.ldc2_w 160, 3) := by decide +kernel
theorem dX8_digestOfEnd_211 : decode cX8_digestOfEnd 211 = .ok (.lload 5, 2) := by decide +kernel
theorem dX8_digestOfEnd_213 : decode cX8_digestOfEnd 213 = .ok (.lmul, 1) := by decide +kernel
theorem dX8_digestOfEnd_214 : decode cX8_digestOfEnd 214 = .ok (.aload 4, 2) := by decide +kernel
theorem dX8_digestOfEnd_216 : decode cX8_digestOfEnd 216 = .ok (.getfield 72, 3) := by decide +kernel
theorem dX8_digestOfEnd_219 : decode cX8_digestOfEnd 219 = .ok (.iload 7, 2) := by decide +kernel
theorem dX8_digestOfEnd_221 : decode cX8_digestOfEnd 221 = .ok (.invokevirtual 122, 3) := by decide +kernel
theorem dX8_digestOfEnd_224 : decode cX8_digestOfEnd 224 = .ok (.i2l, 1) := by decide +kernel
theorem dX8_digestOfEnd_225 : decode cX8_digestOfEnd 225 = .ok (.ladd, 1) := by decide +kernel
theorem dX8_digestOfEnd_226 : decode cX8_digestOfEnd 226 = .ok (.lstore 5, 2) := by decide +kernel
theorem dX8_digestOfEnd_228 : decode cX8_digestOfEnd 228 = .ok (.iinc 7 1, 3) := by decide +kernel
theorem dX8_digestOfEnd_231 : decode cX8_digestOfEnd 231 = .ok (.goto (-36), 3) := by decide +kernel
theorem dX8_digestOfEnd_234 : decode cX8_digestOfEnd 234 = .ok (.lload 5, 2) := by decide +kernel
theorem dX8_digestOfEnd_236 : decode cX8_digestOfEnd 236 = .ok (.lreturn, 1) := by decide +kernel
theorem dX8_modemAt_0 : decode cX8_modemAt 0 = .ok (.iload_n 1, 1) := by decide +kernel
theorem dX8_modemAt_1 : decode cX8_modemAt 1 = .ok (.ifCond .ne 8, 3) := by decide +kernel
theorem dX8_modemAt_4 : decode cX8_modemAt 4 = .ok (.aload_n 0, 1) := by decide +kernel
theorem dX8_modemAt_5 : decode cX8_modemAt 5 = .ok (.getfield 35, 3) := by decide +kernel
theorem dX8_modemAt_8 : decode cX8_modemAt 8 = .ok (.areturn, 1) := by decide +kernel
theorem dX8_modemAt_9 : decode cX8_modemAt 9 = .ok (.iload_n 1, 1) := by decide +kernel
theorem dX8_modemAt_10 : decode cX8_modemAt 10 = .ok (.iconst 1, 1) := by decide +kernel
theorem dX8_modemAt_11 : decode cX8_modemAt 11 = .ok (.if_icmp .ne 10, 3) := by decide +kernel
theorem dX8_modemAt_14 : decode cX8_modemAt 14 = .ok (.aload_n 0, 1) := by decide +kernel
theorem dX8_modemAt_15 : decode cX8_modemAt 15 = .ok (.getfield 39, 3) := by decide +kernel
theorem dX8_modemAt_18 : decode cX8_modemAt 18 = .ok (.goto 4, 3) := by decide +kernel
theorem dX8_modemAt_21 : decode cX8_modemAt 21 = .ok (.aconst_null, 1) := by decide +kernel
theorem dX8_modemAt_22 : decode cX8_modemAt 22 = .ok (.areturn, 1) := by decide +kernel
theorem dX8_changes_0 : decode cX8_changes 0 = .ok (.aload_n 0, 1) := by decide +kernel
theorem dX8_changes_1 : decode cX8_changes 1 = .ok (.getfield 35, 3) := by decide +kernel
theorem dX8_changes_4 : decode cX8_changes 4 = .ok (.getfield 168, 3) := by decide +kernel
theorem dX8_changes_7 : decode cX8_changes 7 = .ok (.aload_n 0, 1) := by decide +kernel
theorem dX8_changes_8 : decode cX8_changes 8 = .ok (.getfield 39, 3) := by decide +kernel
theorem dX8_changes_11 : decode cX8_changes 11 = .ok (.getfield 168, 3) := by decide +kernel
theorem dX8_changes_14 : decode cX8_changes 14 = .ok (.iadd, 1) := by decide +kernel
theorem dX8_changes_15 : decode cX8_changes 15 = .ok (.ireturn, 1) := by decide +kernel
theorem dX9_init_0 : decode cX9_init 0 = .ok (.aload_n 0, 1) := by decide +kernel
theorem dX9_init_1 : decode cX9_init 1 = .ok (.invokespecial 1, 3) := by decide +kernel
theorem dX9_init_4 : decode cX9_init 4 = .ok (.aload_n 0, 1) := by decide +kernel
theorem dX9_init_5 : decode cX9_init 5 = .ok (.bipush 48, 2) := by decide +kernel
theorem dX9_init_7 : decode cX9_init 7 = .ok (.newarray .int, 2) := by decide +kernel
theorem dX9_init_9 : decode cX9_init 9 = .ok (.putfield 7, 3) := by decide +kernel
theorem dX9_init_12 : decode cX9_init 12 = .ok (.aload_n 0, 1) := by decide +kernel
theorem dX9_init_13 : decode cX9_init 13 = .ok (.bipush 16, 2) := by decide +kernel
theorem dX9_init_15 : decode cX9_init 15 = .ok (.newarray .int, 2) := by decide +kernel
theorem dX9_init_17 : decode cX9_init 17 = .ok (.putfield 13, 3) := by decide +kernel
theorem dX9_init_20 : decode cX9_init 20 = .ok (.aload_n 0, 1) := by decide +kernel
theorem dX9_init_21 : decode cX9_init 21 = .ok (.bipush 8, 2) := by decide +kernel
theorem dX9_init_23 : decode cX9_init 23 = .ok (.newarray .int, 2) := by decide +kernel
theorem dX9_init_25 : decode cX9_init 25 = .ok (.putfield 16, 3) := by decide +kernel
theorem dX9_init_28 : decode cX9_init 28 = .ok (.aload_n 0, 1) := by decide +kernel
theorem dX9_init_29 : decode cX9_init 29 = .ok (.bipush 8, 2) := by decide +kernel
theorem dX9_init_31 : decode cX9_init 31 = .ok (.newarray .int, 2) := by decide +kernel
theorem dX9_init_33 : decode cX9_init 33 = .ok (.putfield 19, 3) := by decide +kernel
theorem dX9_init_36 : decode cX9_init 36 = .ok (.aload_n 0, 1) := by decide +kernel
theorem dX9_init_37 : decode cX9_init 37 = .ok (.sipush 400, 3) := by decide +kernel
theorem dX9_init_40 : decode cX9_init 40 = .ok (.newarray .int, 2) := by decide +kernel
theorem dX9_init_42 : decode cX9_init 42 = .ok (.putfield 22, 3) := by decide +kernel
theorem dX9_init_45 : decode cX9_init 45 = .ok (.aload_n 0, 1) := by decide +kernel
theorem dX9_init_46 : decode cX9_init 46 = .ok (.sipush 400, 3) := by decide +kernel
theorem dX9_init_49 : decode cX9_init 49 = .ok (.newarray .int, 2) := by decide +kernel
theorem dX9_init_51 : decode cX9_init 51 = .ok (.putfield 25, 3) := by decide +kernel
theorem dX9_init_54 : decode cX9_init 54 = .ok (.aload_n 0, 1) := by decide +kernel
theorem dX9_init_55 : decode cX9_init 55 = .ok (.bipush 10, 2) := by decide +kernel
theorem dX9_init_57 : decode cX9_init 57 = .ok (.newarray .int, 2) := by decide +kernel
theorem dX9_init_59 : decode cX9_init 59 = .ok (.putfield 28, 3) := by decide +kernel
theorem dX9_init_62 : decode cX9_init 62 = .ok (.aload_n 0, 1) := by decide +kernel
theorem dX9_init_63 : decode cX9_init 63 = .ok (.bipush 16, 2) := by decide +kernel
theorem dX9_init_65 : decode cX9_init 65 = .ok (.newarray .int, 2) := by decide +kernel
theorem dX9_init_67 : decode cX9_init 67 = .ok (.putfield 31, 3) := by decide +kernel
theorem dX9_init_70 : decode cX9_init 70 = .ok (.aload_n 0, 1) := by decide +kernel
theorem dX9_init_71 : decode cX9_init 71 = .ok (.iconst 2, 1) := by decide +kernel
theorem dX9_init_72 : decode cX9_init 72 = .ok (.putfield 34, 3) := by decide +kernel
theorem dX9_init_75 : decode cX9_init 75 = .ok (.aload_n 0, 1) := by decide +kernel
theorem dX9_init_76 : decode cX9_init 76 = .ok (.iconst 2, 1) := by decide +kernel
theorem dX9_init_77 : decode cX9_init 77 = .ok (.newarray .int, 2) := by decide +kernel
theorem dX9_init_79 : decode cX9_init 79 = .ok (.putfield 38, 3) := by decide +kernel
theorem dX9_init_82 : decode cX9_init 82 = .ok (.aload_n 0, 1) := by decide +kernel
theorem dX9_init_83 : decode cX9_init 83 = .ok (.sipush 256, 3) := by decide +kernel
theorem dX9_init_86 : decode cX9_init 86 = .ok (.newarray .int, 2) := by decide +kernel
theorem dX9_init_88 : decode cX9_init 88 = .ok (.putfield 41, 3) := by decide +kernel
theorem dX9_init_91 : decode cX9_init 91 = .ok (.aload_n 0, 1) := by decide +kernel
theorem dX9_init_92 : decode cX9_init 92 = .ok (.bipush 32, 2) := by decide +kernel
theorem dX9_init_94 : decode cX9_init 94 = .ok (.newarray .int, 2) := by decide +kernel
theorem dX9_init_96 : decode cX9_init 96 = .ok (.putfield 44, 3) := by decide +kernel
theorem dX9_init_99 : decode cX9_init 99 = .ok (.aload_n 0, 1) := by decide +kernel
theorem dX9_init_100 : decode cX9_init 100 = .ok (.iconst 2, 1) := by decide +kernel
theorem dX9_init_101 : decode cX9_init 101 = .ok (.newarray .int, 2) := by decide +kernel
theorem dX9_init_103 : decode cX9_init 103 = .ok (.putfield 47, 3) := by decide +kernel
theorem dX9_init_106 : decode cX9_init 106 = .ok (.aload_n 0, 1) := by decide +kernel
theorem dX9_init_107 : decode cX9_init 107 = .ok (.iconst 2, 1) := by decide +kernel
theorem dX9_init_108 : decode cX9_init 108 = .ok (.newarray .int, 2) := by decide +kernel
theorem dX9_init_110 : decode cX9_init 110 = .ok (.putfield 50, 3) := by decide +kernel
theorem dX9_init_113 : decode cX9_init 113 = .ok (.aload_n 0, 1) := by decide +kernel
theorem dX9_init_114 : decode cX9_init 114 = .ok (.bipush 30, 2) := by decide +kernel
theorem dX9_init_116 : decode cX9_init 116 = .ok (.newarray .int, 2) := by decide +kernel
theorem dX9_init_118 : decode cX9_init 118 = .ok (.putfield 53, 3) := by decide +kernel
theorem dX9_init_121 : decode cX9_init 121 = .ok (.aload_n 0, 1) := by decide +kernel
theorem dX9_init_122 : decode cX9_init 122 = .ok (.bipush 16, 2) := by decide +kernel
theorem dX9_init_124 : decode cX9_init 124 = .ok (.newarray .int, 2) := by decide +kernel
theorem dX9_init_126 : decode cX9_init 126 = .ok (.putfield 56, 3) := by decide +kernel
theorem dX9_init_129 : decode cX9_init 129 = .ok (.aload_n 0, 1) := by decide +kernel
theorem dX9_init_130 : decode cX9_init 130 = .ok (.iconst 2, 1) := by decide +kernel
theorem dX9_init_131 : decode cX9_init 131 = .ok (.newarray .int, 2) := by decide +kernel
theorem dX9_init_133 : decode cX9_init 133 = .ok (.putfield 59, 3) := by decide +kernel
theorem dX9_init_136 : decode cX9_init 136 = .ok (.aload_n 0, 1) := by decide +kernel
theorem dX9_init_137 : decode cX9_init 137 = .ok (.bipush 6, 2) := by decide +kernel
theorem dX9_init_139 : decode cX9_init 139 = .ok (.newarray .int, 2) := by decide +kernel
theorem dX9_init_141 : decode cX9_init 141 = .ok (.putfield 62, 3) := by decide +kernel
theorem dX9_init_144 : decode cX9_init 144 = .ok (.iconst 0, 1) := by decide +kernel
theorem dX9_init_145 : decode cX9_init 145 = .ok (.istore_n 1, 1) := by decide +kernel
theorem dX9_init_146 : decode cX9_init 146 = .ok (.iload_n 1, 1) := by decide +kernel
theorem dX9_init_147 : decode cX9_init 147 = .ok (.bipush 16, 2) := by decide +kernel
theorem dX9_init_149 : decode cX9_init 149 = .ok (.if_icmp .ge 17, 3) := by decide +kernel
theorem dX9_init_152 : decode cX9_init 152 = .ok (.aload_n 0, 1) := by decide +kernel
theorem dX9_init_153 : decode cX9_init 153 = .ok (.getfield 31, 3) := by decide +kernel
theorem dX9_init_156 : decode cX9_init 156 = .ok (.iload_n 1, 1) := by decide +kernel
theorem dX9_init_157 : decode cX9_init 157 = .ok (.bipush 8, 2) := by decide +kernel
theorem dX9_init_159 : decode cX9_init 159 = .ok (.iastore, 1) := by decide +kernel
theorem dX9_init_160 : decode cX9_init 160 = .ok (.iinc 1 1, 3) := by decide +kernel
theorem dX9_init_163 : decode cX9_init 163 = .ok (.goto (-17), 3) := by decide +kernel
theorem dX9_init_166 : decode cX9_init 166 = .ok (.return_, 1) := by decide +kernel
theorem dX9_within_0 : decode cX9_within 0 = .ok (.iload_n 0, 1) := by decide +kernel
theorem dX9_within_1 : decode cX9_within 1 = .ok (.iload_n 1, 1) := by decide +kernel
theorem dX9_within_2 : decode cX9_within 2 = .ok (.if_icmp .lt 12, 3) := by decide +kernel
theorem dX9_within_5 : decode cX9_within 5 = .ok (.iload_n 0, 1) := by decide +kernel
theorem dX9_within_6 : decode cX9_within 6 = .ok (.iload_n 2, 1) := by decide +kernel
theorem dX9_within_7 : decode cX9_within 7 = .ok (.if_icmp .gt 7, 3) := by decide +kernel
theorem dX9_within_10 : decode cX9_within 10 = .ok (.iconst 1, 1) := by decide +kernel
theorem dX9_within_11 : decode cX9_within 11 = .ok (.goto 4, 3) := by decide +kernel
theorem dX9_within_14 : decode cX9_within 14 = .ok (.iconst 0, 1) := by decide +kernel
theorem dX9_within_15 : decode cX9_within 15 = .ok (.ireturn, 1) := by decide +kernel
set_option maxRecDepth 20000 in
theorem ggX9_letter_X9_within : GoodIn wsX9_letter wsX9_within := goodIn_r _ [6] (by decide +kernel) (by decide +kernel)
set_option maxRecDepth 20000 in
theorem gX9_letter_X9_within : GoodIn wsX9_letter (va_wsS RX9 65 yX9_within wsX9_within) := goodIn_app (goodIn_of _ (by decide +kernel)) ggX9_letter_X9_within
theorem dX9_letter_0 : decode cX9_letter 0 = .ok (.iload_n 1, 1) := by decide +kernel
theorem dX9_letter_1 : decode cX9_letter 1 = .ok (.bipush 32, 2) := by decide +kernel
theorem dX9_letter_3 : decode cX9_letter 3 = .ok (.bipush 126, 2) := by decide +kernel
theorem dX9_letter_5 : decode cX9_letter 5 = .ok (.invokestatic 65, 3) := by decide +kernel
theorem dX9_letter_8 : decode cX9_letter 8 = .ok (.ifCond .ne 7, 3) := by decide +kernel
theorem dX9_letter_11 : decode cX9_letter 11 = .ok (.sipush (-1002), 3) := by decide +kernel
theorem dX9_letter_14 : decode cX9_letter 14 = .ok (.ireturn, 1) := by decide +kernel
theorem dX9_letter_15 : decode cX9_letter 15 = .ok (.aload_n 0, 1) := by decide +kernel
theorem dX9_letter_16 : decode cX9_letter 16 = .ok (.getfield 69, 3) := by decide +kernel
theorem dX9_letter_19 : decode cX9_letter 19 = .ok (.bipush 30, 2) := by decide +kernel
theorem dX9_letter_21 : decode cX9_letter 21 = .ok (.if_icmp .ne 7, 3) := by decide +kernel
theorem dX9_letter_24 : decode cX9_letter 24 = .ok (.sipush (-1004), 3) := by decide +kernel
theorem dX9_letter_27 : decode cX9_letter 27 = .ok (.ireturn, 1) := by decide +kernel
theorem dX9_letter_28 : decode cX9_letter 28 = .ok (.aload_n 0, 1) := by decide +kernel
theorem dX9_letter_29 : decode cX9_letter 29 = .ok (.getfield 53, 3) := by decide +kernel
theorem dX9_letter_32 : decode cX9_letter 32 = .ok (.aload_n 0, 1) := by decide +kernel
theorem dX9_letter_33 : decode cX9_letter 33 = .ok (.getfield 69, 3) := by decide +kernel
theorem dX9_letter_36 : decode cX9_letter 36 = .ok (.iload_n 1, 1) := by decide +kernel
theorem dX9_letter_37 : decode cX9_letter 37 = .ok (.iastore, 1) := by decide +kernel
theorem dX9_letter_38 : decode cX9_letter 38 = .ok (.aload_n 0, 1) := by decide +kernel
theorem dX9_letter_39 : decode cX9_letter 39 = .ok (.dup, 1) := by decide +kernel
theorem dX9_letter_40 : decode cX9_letter 40 = .ok (.getfield 69, 3) := by decide +kernel
theorem dX9_letter_43 : decode cX9_letter 43 = .ok (.iconst 1, 1) := by decide +kernel
theorem dX9_letter_44 : decode cX9_letter 44 = .ok (.iadd, 1) := by decide +kernel
theorem dX9_letter_45 : decode cX9_letter 45 = .ok (.putfield 69, 3) := by decide +kernel
theorem dX9_letter_48 : decode cX9_letter 48 = .ok (.aload_n 0, 1) := by decide +kernel
theorem dX9_letter_49 : decode cX9_letter 49 = .ok (.getfield 69, 3) := by decide +kernel
theorem dX9_letter_52 : decode cX9_letter 52 = .ok (.ireturn, 1) := by decide +kernel
theorem dX9_blank_0 : decode cX9_blank 0 = .ok (.aload_n 0, 1) := by decide +kernel
theorem dX9_blank_1 : decode cX9_blank 1 = .ok (.getfield 69, 3) := by decide +kernel
theorem dX9_blank_4 : decode cX9_blank 4 = .ok (.istore_n 1, 1) := by decide +kernel
theorem dX9_blank_5 : decode cX9_blank 5 = .ok (.aload_n 0, 1) := by decide +kernel
theorem dX9_blank_6 : decode cX9_blank 6 = .ok (.iconst 0, 1) := by decide +kernel
theorem dX9_blank_7 : decode cX9_blank 7 = .ok (.putfield 69, 3) := by decide +kernel
theorem dX9_blank_10 : decode cX9_blank 10 = .ok (.iload_n 1, 1) := by decide +kernel
theorem dX9_blank_11 : decode cX9_blank 11 = .ok (.ireturn, 1) := by decide +kernel
set_option maxRecDepth 20000 in
theorem ggX9_sixteenth_X9_within : GoodIn wsX9_sixteenth wsX9_within := goodIn_r _ [4] (by decide +kernel) (by decide +kernel)
set_option maxRecDepth 20000 in
theorem gX9_sixteenth_X9_within : GoodIn wsX9_sixteenth (va_wsS RX9 65 yX9_within wsX9_within) := goodIn_app (goodIn_of _ (by decide +kernel)) ggX9_sixteenth_X9_within
theorem dX9_sixteenth_0 : decode cX9_sixteenth 0 = .ok (.iload_n 0, 1) := by decide +kernel
theorem dX9_sixteenth_1 : decode cX9_sixteenth 1 = .ok (.bipush 48, 2) := by decide +kernel
theorem dX9_sixteenth_3 : decode cX9_sixteenth 3 = .ok (.bipush 57, 2) := by decide +kernel
theorem dX9_sixteenth_5 : decode cX9_sixteenth 5 = .ok (.invokestatic 65, 3) := by decide +kernel
theorem dX9_sixteenth_8 : decode cX9_sixteenth 8 = .ok (.ifCond .eq 10, 3) := by decide +kernel
theorem dX9_sixteenth_11 : decode cX9_sixteenth 11 = .ok (.iload_n 0, 1) := by decide +kernel
theorem dX9_sixteenth_12 : decode cX9_sixteenth 12 = .ok (.bipush 48, 2) := by decide +kernel
theorem dX9_sixteenth_14 : decode cX9_sixteenth 14 = .ok (.isub, 1) := by decide +kernel
theorem dX9_sixteenth_15 : decode cX9_sixteenth 15 = .ok (.goto 25, 3) := by decide +kernel
theorem dX9_sixteenth_18 : decode cX9_sixteenth 18 = .ok (.iload_n 0, 1) := by decide +kernel
theorem dX9_sixteenth_19 : decode cX9_sixteenth 19 = .ok (.bipush 97, 2) := by decide +kernel
theorem dX9_sixteenth_21 : decode cX9_sixteenth 21 = .ok (.bipush 102, 2) := by decide +kernel
theorem dX9_sixteenth_23 : decode cX9_sixteenth 23 = .ok (.invokestatic 65, 3) := by decide +kernel
theorem dX9_sixteenth_26 : decode cX9_sixteenth 26 = .ok (.ifCond .eq 13, 3) := by decide +kernel
theorem dX9_sixteenth_29 : decode cX9_sixteenth 29 = .ok (.iload_n 0, 1) := by decide +kernel
theorem dX9_sixteenth_30 : decode cX9_sixteenth 30 = .ok (.bipush 97, 2) := by decide +kernel
theorem dX9_sixteenth_32 : decode cX9_sixteenth 32 = .ok (.isub, 1) := by decide +kernel
theorem dX9_sixteenth_33 : decode cX9_sixteenth 33 = .ok (.bipush 10, 2) := by decide +kernel
theorem dX9_sixteenth_35 : decode cX9_sixteenth 35 = .ok (.iadd, 1) := by decide +kernel
theorem dX9_sixteenth_36 : decode cX9_sixteenth 36 = .ok (.goto 4, 3) := by decide +kernel
theorem dX9_sixteenth_39 : decode cX9_sixteenth 39 = .ok (.iconst (-1), 1) := by decide +kernel
theorem dX9_sixteenth_40 : decode cX9_sixteenth 40 = .ok (.ireturn, 1) := by decide +kernel
set_option maxRecDepth 20000 in
theorem ggX9_takesQuality_X9_sixteenth : GoodIn wsX9_takesQuality wsX9_sixteenth := goodIn_r _ [5, 6, 7, 4, 8] (by decide +kernel) (by decide +kernel)
set_option maxRecDepth 20000 in
theorem gX9_takesQuality_X9_sixteenth : GoodIn wsX9_takesQuality (va_wsS RX9 72 yX9_sixteenth wsX9_sixteenth) := goodIn_app (goodIn_of _ (by decide +kernel)) ggX9_takesQuality_X9_sixteenth
theorem dX9_takesQuality_0 : decode cX9_takesQuality 0 = .ok (.iload_n 1, 1) := by decide +kernel
theorem dX9_takesQuality_1 : decode cX9_takesQuality 1 = .ok (.bipush 8, 2) := by decide +kernel
theorem dX9_takesQuality_3 : decode cX9_takesQuality 3 = .ok (.if_icmp .ge 7, 3) := by decide +kernel
theorem dX9_takesQuality_6 : decode cX9_takesQuality 6 = .ok (.iload_n 1, 1) := by decide +kernel
theorem dX9_takesQuality_7 : decode cX9_takesQuality 7 = .ok (.goto 6, 3) := by decide +kernel
theorem dX9_takesQuality_10 : decode cX9_takesQuality 10 = .ok (.iload_n 1, 1) := by decide +kernel
theorem dX9_takesQuality_11 : decode cX9_takesQuality 11 = .ok (.iconst 1, 1) := by decide +kernel
theorem dX9_takesQuality_12 : decode cX9_takesQuality 12 = .ok (.isub, 1) := by decide +kernel
theorem dX9_takesQuality_13 : decode cX9_takesQuality 13 = .ok (.istore_n 3, 1) := by decide +kernel
theorem dX9_takesQuality_14 : decode cX9_takesQuality 14 = .ok (.aload_n 0, 1) := by decide +kernel
theorem dX9_takesQuality_15 : decode cX9_takesQuality 15 = .ok (.getfield 56, 3) := by decide +kernel
theorem dX9_takesQuality_18 : decode cX9_takesQuality 18 = .ok (.iload_n 3, 1) := by decide +kernel
theorem dX9_takesQuality_19 : decode cX9_takesQuality 19 = .ok (.iload_n 2, 1) := by decide +kernel
theorem dX9_takesQuality_20 : decode cX9_takesQuality 20 = .ok (.invokestatic 72, 3) := by decide +kernel
theorem dX9_takesQuality_23 : decode cX9_takesQuality 23 = .ok (.iastore, 1) := by decide +kernel
theorem dX9_takesQuality_24 : decode cX9_takesQuality 24 = .ok (.aload_n 0, 1) := by decide +kernel
theorem dX9_takesQuality_25 : decode cX9_takesQuality 25 = .ok (.getfield 56, 3) := by decide +kernel
theorem dX9_takesQuality_28 : decode cX9_takesQuality 28 = .ok (.iload_n 3, 1) := by decide +kernel
theorem dX9_takesQuality_29 : decode cX9_takesQuality 29 = .ok (.iaload, 1) := by decide +kernel
theorem dX9_takesQuality_30 : decode cX9_takesQuality 30 = .ok (.iconst (-1), 1) := by decide +kernel
theorem dX9_takesQuality_31 : decode cX9_takesQuality 31 = .ok (.if_icmp .eq 7, 3) := by decide +kernel
theorem dX9_takesQuality_34 : decode cX9_takesQuality 34 = .ok (.iconst 1, 1) := by decide +kernel
theorem dX9_takesQuality_35 : decode cX9_takesQuality 35 = .ok (.goto 4, 3) := by decide +kernel
theorem dX9_takesQuality_38 : decode cX9_takesQuality 38 = .ok (.iconst 0, 1) := by decide +kernel
theorem dX9_takesQuality_39 : decode cX9_takesQuality 39 = .ok (.ireturn, 1) := by decide +kernel
set_option maxRecDepth 20000 in
theorem ggX9_takesHurt_X9_within : GoodIn wsX9_takesHurt wsX9_within := goodIn_r _ [7] (by decide +kernel) (by decide +kernel)
set_option maxRecDepth 20000 in
theorem gX9_takesHurt_X9_within : GoodIn wsX9_takesHurt (va_wsS RX9 65 yX9_within wsX9_within) := goodIn_app (goodIn_of _ (by decide +kernel)) ggX9_takesHurt_X9_within
theorem dX9_takesHurt_0 : decode cX9_takesHurt 0 = .ok (.iload_n 1, 1) := by decide +kernel
theorem dX9_takesHurt_1 : decode cX9_takesHurt 1 = .ok (.bipush 48, 2) := by decide +kernel
theorem dX9_takesHurt_3 : decode cX9_takesHurt 3 = .ok (.bipush 57, 2) := by decide +kernel
theorem dX9_takesHurt_5 : decode cX9_takesHurt 5 = .ok (.invokestatic 65, 3) := by decide +kernel
theorem dX9_takesHurt_8 : decode cX9_takesHurt 8 = .ok (.ifCond .eq 94, 3) := by decide +kernel
theorem dX9_takesHurt_11 : decode cX9_takesHurt 11 = .ok (.aload_n 0, 1) := by decide +kernel
theorem dX9_takesHurt_12 : decode cX9_takesHurt 12 = .ok (.getfield 76, 3) := by decide +kernel
theorem dX9_takesHurt_15 : decode cX9_takesHurt 15 = .ok (.iconst (-1), 1) := by decide +kernel
theorem dX9_takesHurt_16 : decode cX9_takesHurt 16 = .ok (.if_icmp .ne 10, 3) := by decide +kernel
theorem dX9_takesHurt_19 : decode cX9_takesHurt 19 = .ok (.iload_n 1, 1) := by decide +kernel
theorem dX9_takesHurt_20 : decode cX9_takesHurt 20 = .ok (.bipush 48, 2) := by decide +kernel
theorem dX9_takesHurt_22 : decode cX9_takesHurt 22 = .ok (.isub, 1) := by decide +kernel
theorem dX9_takesHurt_23 : decode cX9_takesHurt 23 = .ok (.goto 15, 3) := by decide +kernel
theorem dX9_takesHurt_26 : decode cX9_takesHurt 26 = .ok (.bipush 10, 2) := by decide +kernel
theorem dX9_takesHurt_28 : decode cX9_takesHurt 28 = .ok (.aload_n 0, 1) := by decide +kernel
theorem dX9_takesHurt_29 : decode cX9_takesHurt 29 = .ok (.getfield 76, 3) := by decide +kernel
theorem dX9_takesHurt_32 : decode cX9_takesHurt 32 = .ok (.imul, 1) := by decide +kernel
theorem dX9_takesHurt_33 : decode cX9_takesHurt 33 = .ok (.iload_n 1, 1) := by decide +kernel
theorem dX9_takesHurt_34 : decode cX9_takesHurt 34 = .ok (.iadd, 1) := by decide +kernel
theorem dX9_takesHurt_35 : decode cX9_takesHurt 35 = .ok (.bipush 48, 2) := by decide +kernel
theorem dX9_takesHurt_37 : decode cX9_takesHurt 37 = .ok (.isub, 1) := by decide +kernel
theorem dX9_takesHurt_38 : decode cX9_takesHurt 38 = .ok (.istore_n 2, 1) := by decide +kernel
theorem dX9_takesHurt_39 : decode cX9_takesHurt 39 = .ok (.aload_n 0, 1) := by decide +kernel
theorem dX9_takesHurt_40 : decode cX9_takesHurt 40 = .ok (.getfield 76, 3) := by decide +kernel
theorem dX9_takesHurt_43 : decode cX9_takesHurt 43 = .ok (.ifCond .eq 13, 3) := by decide +kernel
theorem dX9_takesHurt_46 : decode cX9_takesHurt 46 = .ok (.iload_n 2, 1) := by decide +kernel
theorem dX9_takesHurt_47 : decode cX9_takesHurt 47 = .ok (.bipush 50, 2) := by decide +kernel
theorem dX9_takesHurt_49 : decode cX9_takesHurt 49 = .ok (.if_icmp .gt 7, 3) := by decide +kernel
theorem dX9_takesHurt_52 : decode cX9_takesHurt 52 = .ok (.iconst 1, 1) := by decide +kernel
theorem dX9_takesHurt_53 : decode cX9_takesHurt 53 = .ok (.goto 4, 3) := by decide +kernel
theorem dX9_takesHurt_56 : decode cX9_takesHurt 56 = .ok (.iconst 0, 1) := by decide +kernel
theorem dX9_takesHurt_57 : decode cX9_takesHurt 57 = .ok (.istore_n 3, 1) := by decide +kernel
theorem dX9_takesHurt_58 : decode cX9_takesHurt 58 = .ok (.aload_n 0, 1) := by decide +kernel
theorem dX9_takesHurt_59 : decode cX9_takesHurt 59 = .ok (.iload_n 3, 1) := by decide +kernel
theorem dX9_takesHurt_60 : decode cX9_takesHurt 60 = .ok (.ifCond .eq 7, 3) := by decide +kernel
theorem dX9_takesHurt_63 : decode cX9_takesHurt 63 = .ok (.iload_n 2, 1) := by decide +kernel
theorem dX9_takesHurt_64 : decode cX9_takesHurt 64 = .ok (.goto 7, 3) := by decide +kernel
theorem dX9_takesHurt_67 : decode cX9_takesHurt 67 = .ok (.aload_n 0, 1) := by decide +kernel
theorem dX9_takesHurt_68 : decode cX9_takesHurt 68 = .ok (.getfield 76, 3) := by decide +kernel
theorem dX9_takesHurt_71 : decode cX9_takesHurt 71 = .ok (.putfield 76, 3) := by decide +kernel
theorem dX9_takesHurt_74 : decode cX9_takesHurt 74 = .ok (.aload_n 0, 1) := by decide +kernel
theorem dX9_takesHurt_75 : decode cX9_takesHurt 75 = .ok (.getfield 59, 3) := by decide +kernel
theorem dX9_takesHurt_78 : decode cX9_takesHurt 78 = .ok (.aload_n 0, 1) := by decide +kernel
theorem dX9_takesHurt_79 : decode cX9_takesHurt 79 = .ok (.getfield 79, 3) := by decide +kernel
theorem dX9_takesHurt_82 : decode cX9_takesHurt 82 = .ok (.iload_n 3, 1) := by decide +kernel
theorem dX9_takesHurt_83 : decode cX9_takesHurt 83 = .ok (.ifCond .eq 7, 3) := by decide +kernel
theorem dX9_takesHurt_86 : decode cX9_takesHurt 86 = .ok (.iload_n 2, 1) := by decide +kernel
theorem dX9_takesHurt_87 : decode cX9_takesHurt 87 = .ok (.goto 12, 3) := by decide +kernel
theorem dX9_takesHurt_90 : decode cX9_takesHurt 90 = .ok (.aload_n 0, 1) := by decide +kernel
theorem dX9_takesHurt_91 : decode cX9_takesHurt 91 = .ok (.getfield 59, 3) := by decide +kernel
theorem dX9_takesHurt_94 : decode cX9_takesHurt 94 = .ok (.aload_n 0, 1) := by decide +kernel
theorem dX9_takesHurt_95 : decode cX9_takesHurt 95 = .ok (.getfield 79, 3) := by decide +kernel
theorem dX9_takesHurt_98 : decode cX9_takesHurt 98 = .ok (.iaload, 1) := by decide +kernel
theorem dX9_takesHurt_99 : decode cX9_takesHurt 99 = .ok (.iastore, 1) := by decide +kernel
theorem dX9_takesHurt_100 : decode cX9_takesHurt 100 = .ok (.iload_n 3, 1) := by decide +kernel
theorem dX9_takesHurt_101 : decode cX9_takesHurt 101 = .ok (.ireturn, 1) := by decide +kernel
theorem dX9_takesHurt_102 : decode cX9_takesHurt 102 = .ok (.iload_n 1, 1) := by decide +kernel
theorem dX9_takesHurt_103 : decode cX9_takesHurt 103 = .ok (.bipush 44, 2) := by decide +kernel
theorem dX9_takesHurt_105 : decode cX9_takesHurt 105 = .ok (.if_icmp .ne 22, 3) := by decide +kernel
theorem dX9_takesHurt_108 : decode cX9_takesHurt 108 = .ok (.aload_n 0, 1) := by decide +kernel
theorem dX9_takesHurt_109 : decode cX9_takesHurt 109 = .ok (.getfield 79, 3) := by decide +kernel
theorem dX9_takesHurt_112 : decode cX9_takesHurt 112 = .ok (.ifCond .ne 15, 3) := by decide +kernel
theorem dX9_takesHurt_115 : decode cX9_takesHurt 115 = .ok (.aload_n 0, 1) := by decide +kernel
theorem dX9_takesHurt_116 : decode cX9_takesHurt 116 = .ok (.getfield 76, 3) := by decide +kernel
theorem dX9_takesHurt_119 : decode cX9_takesHurt 119 = .ok (.iconst (-1), 1) := by decide +kernel
theorem dX9_takesHurt_120 : decode cX9_takesHurt 120 = .ok (.if_icmp .eq 7, 3) := by decide +kernel
theorem dX9_takesHurt_123 : decode cX9_takesHurt 123 = .ok (.iconst 1, 1) := by decide +kernel
theorem dX9_takesHurt_124 : decode cX9_takesHurt 124 = .ok (.goto 4, 3) := by decide +kernel
theorem dX9_takesHurt_127 : decode cX9_takesHurt 127 = .ok (.iconst 0, 1) := by decide +kernel
theorem dX9_takesHurt_128 : decode cX9_takesHurt 128 = .ok (.istore_n 2, 1) := by decide +kernel
theorem dX9_takesHurt_129 : decode cX9_takesHurt 129 = .ok (.aload_n 0, 1) := by decide +kernel
theorem dX9_takesHurt_130 : decode cX9_takesHurt 130 = .ok (.iload_n 2, 1) := by decide +kernel
theorem dX9_takesHurt_131 : decode cX9_takesHurt 131 = .ok (.ifCond .eq 7, 3) := by decide +kernel
theorem dX9_takesHurt_134 : decode cX9_takesHurt 134 = .ok (.iconst 1, 1) := by decide +kernel
theorem dX9_takesHurt_135 : decode cX9_takesHurt 135 = .ok (.goto 7, 3) := by decide +kernel
theorem dX9_takesHurt_138 : decode cX9_takesHurt 138 = .ok (.aload_n 0, 1) := by decide +kernel
theorem dX9_takesHurt_139 : decode cX9_takesHurt 139 = .ok (.getfield 79, 3) := by decide +kernel
theorem dX9_takesHurt_142 : decode cX9_takesHurt 142 = .ok (.putfield 79, 3) := by decide +kernel
theorem dX9_takesHurt_145 : decode cX9_takesHurt 145 = .ok (.aload_n 0, 1) := by decide +kernel
theorem dX9_takesHurt_146 : decode cX9_takesHurt 146 = .ok (.iload_n 2, 1) := by decide +kernel
theorem dX9_takesHurt_147 : decode cX9_takesHurt 147 = .ok (.ifCond .eq 7, 3) := by decide +kernel
theorem dX9_takesHurt_150 : decode cX9_takesHurt 150 = .ok (.iconst (-1), 1) := by decide +kernel
theorem dX9_takesHurt_151 : decode cX9_takesHurt 151 = .ok (.goto 7, 3) := by decide +kernel
theorem dX9_takesHurt_154 : decode cX9_takesHurt 154 = .ok (.aload_n 0, 1) := by decide +kernel
theorem dX9_takesHurt_155 : decode cX9_takesHurt 155 = .ok (.getfield 76, 3) := by decide +kernel
theorem dX9_takesHurt_158 : decode cX9_takesHurt 158 = .ok (.putfield 76, 3) := by decide +kernel
theorem dX9_takesHurt_161 : decode cX9_takesHurt 161 = .ok (.iload_n 2, 1) := by decide +kernel
theorem dX9_takesHurt_162 : decode cX9_takesHurt 162 = .ok (.ireturn, 1) := by decide +kernel
set_option maxRecDepth 20000 in
theorem ggX9_takes_X9_takesQuality : GoodIn wsX9_takes wsX9_takesQuality := goodIn_r _ [7, 8, 9, 10, 6, 11, 12, 13, 14, 21, 22, 23, 24, 25, 26, 27, 28, 29, 30, 31, 32, 33, 34, 35, 36, 37, 38, 39, 40, 41, 42, 43, 44, 45, 46, 47, 48, 49, 50] (by decide +kernel) (by decide +kernel)
set_option maxRecDepth 20000 in
theorem gX9_takes_X9_takesQuality : GoodIn wsX9_takes (wsV RX9 82 RX9 yX9_takesQuality wsX9_takesQuality) := goodIn_app (goodIn_of _ (by decide +kernel)) ggX9_takes_X9_takesQuality
set_option maxRecDepth 20000 in
theorem ggX9_takes_X9_within : GoodIn wsX9_takes wsX9_within := goodIn_r _ [14] (by decide +kernel) (by decide +kernel)
set_option maxRecDepth 20000 in
theorem gX9_takes_X9_within : GoodIn wsX9_takes (va_wsS RX9 65 yX9_within wsX9_within) := goodIn_app (goodIn_of _ (by decide +kernel)) ggX9_takes_X9_within
set_option maxRecDepth 20000 in
theorem ggX9_takes_X9_takesHurt : GoodIn wsX9_takes wsX9_takesHurt := goodIn_r _ [18, 19, 20, 2, 12, 13, 6, 14, 21, 22, 23, 24, 25, 26, 27, 28, 29, 30, 31, 32, 33, 34, 35, 36, 37, 38, 39, 40, 41, 42, 43, 44, 45, 46, 47, 48, 49, 50] (by decide +kernel) (by decide +kernel)
set_option maxRecDepth 20000 in
theorem gX9_takes_X9_takesHurt : GoodIn wsX9_takes (wsV RX9 89 RX9 yX9_takesHurt wsX9_takesHurt) := goodIn_app (goodIn_of _ (by decide +kernel)) ggX9_takes_X9_takesHurt
theorem dX9_takes_0 : decode cX9_takes 0 = .ok (.iload_n 1, 1) := by decide +kernel
theorem dX9_takes_1 : decode cX9_takes 1 = .ok (.bipush 8, 2) := by decide +kernel
theorem dX9_takes_3 : decode cX9_takes 3 = .ok (.if_icmp .ne 15, 3) := by decide +kernel
theorem dX9_takes_6 : decode cX9_takes 6 = .ok (.iload_n 2, 1) := by decide +kernel
theorem dX9_takes_7 : decode cX9_takes 7 = .ok (.bipush 47, 2) := by decide +kernel
theorem dX9_takes_9 : decode cX9_takes 9 = .ok (.if_icmp .ne 7, 3) := by decide +kernel
theorem dX9_takes_12 : decode cX9_takes 12 = .ok (.iconst 1, 1) := by decide +kernel
theorem dX9_takes_13 : decode cX9_takes 13 = .ok (.goto 4, 3) := by decide +kernel
theorem dX9_takes_16 : decode cX9_takes 16 = .ok (.iconst 0, 1) := by decide +kernel
theorem dX9_takes_17 : decode cX9_takes 17 = .ok (.ireturn, 1) := by decide +kernel
theorem dX9_takes_18 : decode cX9_takes 18 = .ok (.iload_n 1, 1) := by decide +kernel
theorem dX9_takes_19 : decode cX9_takes 19 = .ok (.bipush 17, 2) := by decide +kernel
theorem dX9_takes_21 : decode cX9_takes 21 = .ok (.if_icmp .ge 10, 3) := by decide +kernel
theorem dX9_takes_24 : decode cX9_takes 24 = .ok (.aload_n 0, 1) := by decide +kernel
theorem dX9_takes_25 : decode cX9_takes 25 = .ok (.iload_n 1, 1) := by decide +kernel
theorem dX9_takes_26 : decode cX9_takes 26 = .ok (.iload_n 2, 1) := by decide +kernel
theorem dX9_takes_27 : decode cX9_takes 27 = .ok (.invokevirtual 82, 3) := by decide +kernel
theorem dX9_takes_30 : decode cX9_takes 30 = .ok (.ireturn, 1) := by decide +kernel
theorem dX9_takes_31 : decode cX9_takes 31 = .ok (.iload_n 1, 1) := by decide +kernel
theorem dX9_takes_32 : decode cX9_takes 32 = .ok (.bipush 17, 2) := by decide +kernel
theorem dX9_takes_34 : decode cX9_takes 34 = .ok (.if_icmp .ne 15, 3) := by decide +kernel
theorem dX9_takes_37 : decode cX9_takes 37 = .ok (.iload_n 2, 1) := by decide +kernel
theorem dX9_takes_38 : decode cX9_takes 38 = .ok (.bipush 59, 2) := by decide +kernel
theorem dX9_takes_40 : decode cX9_takes 40 = .ok (.if_icmp .ne 7, 3) := by decide +kernel
theorem dX9_takes_43 : decode cX9_takes 43 = .ok (.iconst 1, 1) := by decide +kernel
theorem dX9_takes_44 : decode cX9_takes 44 = .ok (.goto 4, 3) := by decide +kernel
theorem dX9_takes_47 : decode cX9_takes 47 = .ok (.iconst 0, 1) := by decide +kernel
theorem dX9_takes_48 : decode cX9_takes 48 = .ok (.ireturn, 1) := by decide +kernel
theorem dX9_takes_49 : decode cX9_takes 49 = .ok (.iload_n 1, 1) := by decide +kernel
theorem dX9_takes_50 : decode cX9_takes 50 = .ok (.bipush 18, 2) := by decide +kernel
theorem dX9_takes_52 : decode cX9_takes 52 = .ok (.if_icmp .ne 22, 3) := by decide +kernel
theorem dX9_takes_55 : decode cX9_takes 55 = .ok (.aload_n 0, 1) := by decide +kernel
theorem dX9_takes_56 : decode cX9_takes 56 = .ok (.iload_n 2, 1) := by decide +kernel
theorem dX9_takes_57 : decode cX9_takes 57 = .ok (.bipush 48, 2) := by decide +kernel
theorem dX9_takes_59 : decode cX9_takes 59 = .ok (.isub, 1) := by decide +kernel
theorem dX9_takes_60 : decode cX9_takes 60 = .ok (.putfield 86, 3) := by decide +kernel
theorem dX9_takes_63 : decode cX9_takes 63 = .ok (.aload_n 0, 1) := by decide +kernel
theorem dX9_takes_64 : decode cX9_takes 64 = .ok (.getfield 86, 3) := by decide +kernel
theorem dX9_takes_67 : decode cX9_takes 67 = .ok (.iconst 1, 1) := by decide +kernel
theorem dX9_takes_68 : decode cX9_takes 68 = .ok (.bipush 8, 2) := by decide +kernel
theorem dX9_takes_70 : decode cX9_takes 70 = .ok (.invokestatic 65, 3) := by decide +kernel
theorem dX9_takes_73 : decode cX9_takes 73 = .ok (.ireturn, 1) := by decide +kernel
theorem dX9_takes_74 : decode cX9_takes 74 = .ok (.iload_n 1, 1) := by decide +kernel
theorem dX9_takes_75 : decode cX9_takes 75 = .ok (.bipush 19, 2) := by decide +kernel
theorem dX9_takes_77 : decode cX9_takes 77 = .ok (.if_icmp .ne 20, 3) := by decide +kernel
theorem dX9_takes_80 : decode cX9_takes 80 = .ok (.aload_n 0, 1) := by decide +kernel
theorem dX9_takes_81 : decode cX9_takes 81 = .ok (.iconst 0, 1) := by decide +kernel
theorem dX9_takes_82 : decode cX9_takes 82 = .ok (.putfield 79, 3) := by decide +kernel
theorem dX9_takes_85 : decode cX9_takes 85 = .ok (.iload_n 2, 1) := by decide +kernel
theorem dX9_takes_86 : decode cX9_takes 86 = .ok (.bipush 104, 2) := by decide +kernel
theorem dX9_takes_88 : decode cX9_takes 88 = .ok (.if_icmp .ne 7, 3) := by decide +kernel
theorem dX9_takes_91 : decode cX9_takes 91 = .ok (.iconst 1, 1) := by decide +kernel
theorem dX9_takes_92 : decode cX9_takes 92 = .ok (.goto 4, 3) := by decide +kernel
theorem dX9_takes_95 : decode cX9_takes 95 = .ok (.iconst 0, 1) := by decide +kernel
theorem dX9_takes_96 : decode cX9_takes 96 = .ok (.ireturn, 1) := by decide +kernel
theorem dX9_takes_97 : decode cX9_takes 97 = .ok (.aload_n 0, 1) := by decide +kernel
theorem dX9_takes_98 : decode cX9_takes 98 = .ok (.iload_n 2, 1) := by decide +kernel
theorem dX9_takes_99 : decode cX9_takes 99 = .ok (.invokevirtual 89, 3) := by decide +kernel
theorem dX9_takes_102 : decode cX9_takes 102 = .ok (.ireturn, 1) := by decide +kernel
set_option maxRecDepth 20000 in
theorem ggX9_read_X9_takes : GoodIn wsX9_read wsX9_takes := goodIn_r _ [10, 11, 2, 12, 13, 14, 9, 15, 16, 17, 18, 19, 20, 21, 22, 23, 24, 25, 26, 3, 1, 27, 28, 29, 30, 31, 32, 33, 34, 35, 36, 37, 38, 39, 40, 41, 42, 43, 44, 45, 46, 47, 48, 49, 50, 51, 52, 53, 54, 55, 56] (by decide +kernel) (by decide +kernel)
set_option maxRecDepth 20000 in
theorem gX9_read_X9_takes : GoodIn wsX9_read (wsV RX9 93 RX9 yX9_takes wsX9_takes) := goodIn_app (goodIn_of _ (by decide +kernel)) ggX9_read_X9_takes
theorem dX9_read_0 : decode cX9_read 0 = .ok (.aload_n 0, 1) := by decide +kernel
theorem dX9_read_1 : decode cX9_read 1 = .ok (.getfield 59, 3) := by decide +kernel
theorem dX9_read_4 : decode cX9_read 4 = .ok (.iconst 0, 1) := by decide +kernel
theorem dX9_read_5 : decode cX9_read 5 = .ok (.iconst 0, 1) := by decide +kernel
theorem dX9_read_6 : decode cX9_read 6 = .ok (.iastore, 1) := by decide +kernel
theorem dX9_read_7 : decode cX9_read 7 = .ok (.aload_n 0, 1) := by decide +kernel
theorem dX9_read_8 : decode cX9_read 8 = .ok (.getfield 59, 3) := by decide +kernel
theorem dX9_read_11 : decode cX9_read 11 = .ok (.iconst 1, 1) := by decide +kernel
theorem dX9_read_12 : decode cX9_read 12 = .ok (.iconst 0, 1) := by decide +kernel
theorem dX9_read_13 : decode cX9_read 13 = .ok (.iastore, 1) := by decide +kernel
theorem dX9_read_14 : decode cX9_read 14 = .ok (.aload_n 0, 1) := by decide +kernel
theorem dX9_read_15 : decode cX9_read 15 = .ok (.iconst (-1), 1) := by decide +kernel
theorem dX9_read_16 : decode cX9_read 16 = .ok (.putfield 79, 3) := by decide +kernel
theorem dX9_read_19 : decode cX9_read 19 = .ok (.aload_n 0, 1) := by decide +kernel
theorem dX9_read_20 : decode cX9_read 20 = .ok (.iconst (-1), 1) := by decide +kernel
theorem dX9_read_21 : decode cX9_read 21 = .ok (.putfield 76, 3) := by decide +kernel
theorem dX9_read_24 : decode cX9_read 24 = .ok (.iconst 0, 1) := by decide +kernel
theorem dX9_read_25 : decode cX9_read 25 = .ok (.istore_n 1, 1) := by decide +kernel
theorem dX9_read_26 : decode cX9_read 26 = .ok (.iload_n 1, 1) := by decide +kernel
theorem dX9_read_27 : decode cX9_read 27 = .ok (.aload_n 0, 1) := by decide +kernel
theorem dX9_read_28 : decode cX9_read 28 = .ok (.getfield 69, 3) := by decide +kernel
theorem dX9_read_31 : decode cX9_read 31 = .ok (.if_icmp .ge 23, 3) := by decide +kernel
theorem dX9_read_34 : decode cX9_read 34 = .ok (.aload_n 0, 1) := by decide +kernel
theorem dX9_read_35 : decode cX9_read 35 = .ok (.iload_n 1, 1) := by decide +kernel
theorem dX9_read_36 : decode cX9_read 36 = .ok (.aload_n 0, 1) := by decide +kernel
theorem dX9_read_37 : decode cX9_read 37 = .ok (.getfield 53, 3) := by decide +kernel
theorem dX9_read_40 : decode cX9_read 40 = .ok (.iload_n 1, 1) := by decide +kernel
theorem dX9_read_41 : decode cX9_read 41 = .ok (.iaload, 1) := by decide +kernel
theorem dX9_read_42 : decode cX9_read 42 = .ok (.invokevirtual 93, 3) := by decide +kernel
theorem dX9_read_45 : decode cX9_read 45 = .ok (.ifCond .eq 9, 3) := by decide +kernel
theorem dX9_read_48 : decode cX9_read 48 = .ok (.iinc 1 1, 3) := by decide +kernel
theorem dX9_read_51 : decode cX9_read 51 = .ok (.goto (-25), 3) := by decide +kernel
theorem dX9_read_54 : decode cX9_read 54 = .ok (.iload_n 1, 1) := by decide +kernel
theorem dX9_read_55 : decode cX9_read 55 = .ok (.ireturn, 1) := by decide +kernel
set_option maxRecDepth 20000 in
theorem ggX9_fault_X9_read : GoodIn wsX9_fault wsX9_read := goodIn_r _ [5, 6, 7, 8, 9, 10, 11, 12, 13, 4, 14, 15, 16, 17, 18, 19, 20, 21, 22, 23, 24, 25, 26, 27, 28, 29, 30, 31, 32, 33, 34, 35, 36, 37, 38, 39, 40, 41, 42, 43, 44, 45, 46, 47, 48, 49, 50, 51, 52, 53, 54, 55, 56, 57, 58, 59, 60] (by decide +kernel) (by decide +kernel)
set_option maxRecDepth 20000 in
theorem gX9_fault_X9_read : GoodIn wsX9_fault (wsV RX9 96 RX9 yX9_read wsX9_read) := goodIn_app (goodIn_of _ (by decide +kernel)) ggX9_fault_X9_read
theorem dX9_fault_0 : decode cX9_fault 0 = .ok (.aload_n 0, 1) := by decide +kernel
theorem dX9_fault_1 : decode cX9_fault 1 = .ok (.invokevirtual 96, 3) := by decide +kernel
theorem dX9_fault_4 : decode cX9_fault 4 = .ok (.ireturn, 1) := by decide +kernel
set_option maxRecDepth 20000 in
theorem ggX9_line_X9_read : GoodIn wsX9_line wsX9_read := goodIn_r _ [15, 9, 2, 3, 1, 16, 17, 18, 19, 14, 20, 6, 21, 22, 23, 24, 5, 25, 26, 27, 28, 29, 30, 31, 32, 33, 34, 35, 36, 37, 38, 39, 40, 41, 42, 43, 44, 45, 46, 47, 48, 49, 50, 51, 52, 53, 54, 55, 56, 57, 58, 59, 60, 61, 62, 63, 64] (by decide +kernel) (by decide +kernel)
set_option maxRecDepth 20000 in
theorem gX9_line_X9_read : GoodIn wsX9_line (wsV RX9 96 RX9 yX9_read wsX9_read) := goodIn_app (goodIn_of _ (by decide +kernel)) ggX9_line_X9_read
theorem dX9_line_0 : decode cX9_line 0 = .ok (.aload_n 0, 1) := by decide +kernel
theorem dX9_line_1 : decode cX9_line 1 = .ok (.invokevirtual 96, 3) := by decide +kernel
theorem dX9_line_4 : decode cX9_line 4 = .ok (.aload_n 0, 1) := by decide +kernel
theorem dX9_line_5 : decode cX9_line 5 = .ok (.getfield 69, 3) := by decide +kernel
theorem dX9_line_8 : decode cX9_line 8 = .ok (.if_icmp .ne 41, 3) := by decide +kernel
theorem dX9_line_11 : decode cX9_line 11 = .ok (.aload_n 0, 1) := by decide +kernel
theorem dX9_line_12 : decode cX9_line 12 = .ok (.getfield 69, 3) := by decide +kernel
theorem dX9_line_15 : decode cX9_line 15 = .ok (.bipush 19, 2) := by decide +kernel
theorem dX9_line_17 : decode cX9_line 17 = .ok (.if_icmp .eq 28, 3) := by decide +kernel
theorem dX9_line_20 : decode cX9_line 20 = .ok (.aload_n 0, 1) := by decide +kernel
theorem dX9_line_21 : decode cX9_line 21 = .ok (.getfield 69, 3) := by decide +kernel
theorem dX9_line_24 : decode cX9_line 24 = .ok (.bipush 19, 2) := by decide +kernel
theorem dX9_line_26 : decode cX9_line 26 = .ok (.if_icmp .le 23, 3) := by decide +kernel
theorem dX9_line_29 : decode cX9_line 29 = .ok (.aload_n 0, 1) := by decide +kernel
theorem dX9_line_30 : decode cX9_line 30 = .ok (.getfield 79, 3) := by decide +kernel
theorem dX9_line_33 : decode cX9_line 33 = .ok (.iconst 1, 1) := by decide +kernel
theorem dX9_line_34 : decode cX9_line 34 = .ok (.if_icmp .ne 15, 3) := by decide +kernel
theorem dX9_line_37 : decode cX9_line 37 = .ok (.aload_n 0, 1) := by decide +kernel
theorem dX9_line_38 : decode cX9_line 38 = .ok (.getfield 76, 3) := by decide +kernel
theorem dX9_line_41 : decode cX9_line 41 = .ok (.iconst (-1), 1) := by decide +kernel
theorem dX9_line_42 : decode cX9_line 42 = .ok (.if_icmp .eq 7, 3) := by decide +kernel
theorem dX9_line_45 : decode cX9_line 45 = .ok (.iconst 1, 1) := by decide +kernel
theorem dX9_line_46 : decode cX9_line 46 = .ok (.goto 4, 3) := by decide +kernel
theorem dX9_line_49 : decode cX9_line 49 = .ok (.iconst 0, 1) := by decide +kernel
theorem dX9_line_50 : decode cX9_line 50 = .ok (.istore_n 1, 1) := by decide +kernel
theorem dX9_line_51 : decode cX9_line 51 = .ok (.iload_n 1, 1) := by decide +kernel
theorem dX9_line_52 : decode cX9_line 52 = .ok (.ifCond .ne 7, 3) := by decide +kernel
theorem dX9_line_55 : decode cX9_line 55 = .ok (.sipush (-1003), 3) := by decide +kernel
theorem dX9_line_58 : decode cX9_line 58 = .ok (.ireturn, 1) := by decide +kernel
theorem dX9_line_59 : decode cX9_line 59 = .ok (.iconst 0, 1) := by decide +kernel
theorem dX9_line_60 : decode cX9_line 60 = .ok (.istore_n 2, 1) := by decide +kernel
theorem dX9_line_61 : decode cX9_line 61 = .ok (.iload_n 2, 1) := by decide +kernel
theorem dX9_line_62 : decode cX9_line 62 = .ok (.bipush 16, 2) := by decide +kernel
theorem dX9_line_64 : decode cX9_line 64 = .ok (.if_icmp .ge 21, 3) := by decide +kernel
theorem dX9_line_67 : decode cX9_line 67 = .ok (.aload_n 0, 1) := by decide +kernel
theorem dX9_line_68 : decode cX9_line 68 = .ok (.getfield 31, 3) := by decide +kernel
theorem dX9_line_71 : decode cX9_line 71 = .ok (.iload_n 2, 1) := by decide +kernel
theorem dX9_line_72 : decode cX9_line 72 = .ok (.aload_n 0, 1) := by decide +kernel
theorem dX9_line_73 : decode cX9_line 73 = .ok (.getfield 56, 3) := by decide +kernel
theorem dX9_line_76 : decode cX9_line 76 = .ok (.iload_n 2, 1) := by decide +kernel
theorem dX9_line_77 : decode cX9_line 77 = .ok (.iaload, 1) := by decide +kernel
theorem dX9_line_78 : decode cX9_line 78 = .ok (.iastore, 1) := by decide +kernel
theorem dX9_line_79 : decode cX9_line 79 = .ok (.iinc 2 1, 3) := by decide +kernel
theorem dX9_line_82 : decode cX9_line 82 = .ok (.goto (-21), 3) := by decide +kernel
theorem dX9_line_85 : decode cX9_line 85 = .ok (.aload_n 0, 1) := by decide +kernel
theorem dX9_line_86 : decode cX9_line 86 = .ok (.aload_n 0, 1) := by decide +kernel
theorem dX9_line_87 : decode cX9_line 87 = .ok (.getfield 86, 3) := by decide +kernel
theorem dX9_line_90 : decode cX9_line 90 = .ok (.putfield 34, 3) := by decide +kernel
theorem dX9_line_93 : decode cX9_line 93 = .ok (.aload_n 0, 1) := by decide +kernel
theorem dX9_line_94 : decode cX9_line 94 = .ok (.getfield 38, 3) := by decide +kernel
theorem dX9_line_97 : decode cX9_line 97 = .ok (.iconst 0, 1) := by decide +kernel
theorem dX9_line_98 : decode cX9_line 98 = .ok (.aload_n 0, 1) := by decide +kernel
theorem dX9_line_99 : decode cX9_line 99 = .ok (.getfield 59, 3) := by decide +kernel
theorem dX9_line_102 : decode cX9_line 102 = .ok (.iconst 0, 1) := by decide +kernel
theorem dX9_line_103 : decode cX9_line 103 = .ok (.iaload, 1) := by decide +kernel
theorem dX9_line_104 : decode cX9_line 104 = .ok (.iastore, 1) := by decide +kernel
theorem dX9_line_105 : decode cX9_line 105 = .ok (.aload_n 0, 1) := by decide +kernel
theorem dX9_line_106 : decode cX9_line 106 = .ok (.getfield 38, 3) := by decide +kernel
theorem dX9_line_109 : decode cX9_line 109 = .ok (.iconst 1, 1) := by decide +kernel
theorem dX9_line_110 : decode cX9_line 110 = .ok (.aload_n 0, 1) := by decide +kernel
theorem dX9_line_111 : decode cX9_line 111 = .ok (.getfield 59, 3) := by decide +kernel
theorem dX9_line_114 : decode cX9_line 114 = .ok (.iconst 1, 1) := by decide +kernel
theorem dX9_line_115 : decode cX9_line 115 = .ok (.iaload, 1) := by decide +kernel
theorem dX9_line_116 : decode cX9_line 116 = .ok (.iastore, 1) := by decide +kernel
theorem dX9_line_117 : decode cX9_line 117 = .ok (.aload_n 0, 1) := by decide +kernel
theorem dX9_line_118 : decode cX9_line 118 = .ok (.dup, 1) := by decide +kernel
theorem dX9_line_119 : decode cX9_line 119 = .ok (.getfield 100, 3) := by decide +kernel
theorem dX9_line_122 : decode cX9_line 122 = .ok (.iconst 1, 1) := by decide +kernel
theorem dX9_line_123 : decode cX9_line 123 = .ok (.iadd, 1) := by decide +kernel
theorem dX9_line_124 : decode cX9_line 124 = .ok (.putfield 100, 3) := by decide +kernel
theorem dX9_line_127 : decode cX9_line 127 = .ok (.aload_n 0, 1) := by decide +kernel
theorem dX9_line_128 : decode cX9_line 128 = .ok (.iconst 0, 1) := by decide +kernel
theorem dX9_line_129 : decode cX9_line 129 = .ok (.putfield 69, 3) := by decide +kernel
theorem dX9_line_132 : decode cX9_line 132 = .ok (.aload_n 0, 1) := by decide +kernel
theorem dX9_line_133 : decode cX9_line 133 = .ok (.getfield 34, 3) := by decide +kernel
theorem dX9_line_136 : decode cX9_line 136 = .ok (.ireturn, 1) := by decide +kernel
set_option maxRecDepth 20000 in
theorem ggX9_isEnd_X9_within : GoodIn wsX9_isEnd wsX9_within := goodIn_r _ [4] (by decide +kernel) (by decide +kernel)
set_option maxRecDepth 20000 in
theorem gX9_isEnd_X9_within : GoodIn wsX9_isEnd (va_wsS RX9 65 yX9_within wsX9_within) := goodIn_app (goodIn_of _ (by decide +kernel)) ggX9_isEnd_X9_within
theorem dX9_isEnd_0 : decode cX9_isEnd 0 = .ok (.iload_n 0, 1) := by decide +kernel
theorem dX9_isEnd_1 : decode cX9_isEnd 1 = .ok (.iconst 0, 1) := by decide +kernel
theorem dX9_isEnd_2 : decode cX9_isEnd 2 = .ok (.iconst 1, 1) := by decide +kernel
theorem dX9_isEnd_3 : decode cX9_isEnd 3 = .ok (.invokestatic 65, 3) := by decide +kernel
theorem dX9_isEnd_6 : decode cX9_isEnd 6 = .ok (.ireturn, 1) := by decide +kernel
theorem dX9_of_0 : decode cX9_of 0 = .ok (.aload_n 0, 1) := by decide +kernel
theorem dX9_of_1 : decode cX9_of 1 = .ok (.getfield 7, 3) := by decide +kernel
theorem dX9_of_4 : decode cX9_of 4 = .ok (.bipush 24, 2) := by decide +kernel
theorem dX9_of_6 : decode cX9_of 6 = .ok (.iload_n 1, 1) := by decide +kernel
theorem dX9_of_7 : decode cX9_of 7 = .ok (.imul, 1) := by decide +kernel
theorem dX9_of_8 : decode cX9_of 8 = .ok (.iload_n 2, 1) := by decide +kernel
theorem dX9_of_9 : decode cX9_of 9 = .ok (.iadd, 1) := by decide +kernel
theorem dX9_of_10 : decode cX9_of 10 = .ok (.iaload, 1) := by decide +kernel
theorem dX9_of_11 : decode cX9_of 11 = .ok (.ireturn, 1) := by decide +kernel
theorem dX9_put_0 : decode cX9_put 0 = .ok (.aload_n 0, 1) := by decide +kernel
theorem dX9_put_1 : decode cX9_put 1 = .ok (.getfield 7, 3) := by decide +kernel
theorem dX9_put_4 : decode cX9_put 4 = .ok (.bipush 24, 2) := by decide +kernel
theorem dX9_put_6 : decode cX9_put 6 = .ok (.iload_n 1, 1) := by decide +kernel
theorem dX9_put_7 : decode cX9_put 7 = .ok (.imul, 1) := by decide +kernel
theorem dX9_put_8 : decode cX9_put 8 = .ok (.iload_n 2, 1) := by decide +kernel
theorem dX9_put_9 : decode cX9_put 9 = .ok (.iadd, 1) := by decide +kernel
theorem dX9_put_10 : decode cX9_put 10 = .ok (.iload_n 3, 1) := by decide +kernel
theorem dX9_put_11 : decode cX9_put 11 = .ok (.iastore, 1) := by decide +kernel
theorem dX9_put_12 : decode cX9_put 12 = .ok (.return_, 1) := by decide +kernel
theorem dX9_add_0 : decode cX9_add 0 = .ok (.aload_n 0, 1) := by decide +kernel
theorem dX9_add_1 : decode cX9_add 1 = .ok (.getfield 7, 3) := by decide +kernel
theorem dX9_add_4 : decode cX9_add 4 = .ok (.bipush 24, 2) := by decide +kernel
theorem dX9_add_6 : decode cX9_add 6 = .ok (.iload_n 1, 1) := by decide +kernel
theorem dX9_add_7 : decode cX9_add 7 = .ok (.imul, 1) := by decide +kernel
theorem dX9_add_8 : decode cX9_add 8 = .ok (.iload_n 2, 1) := by decide +kernel
theorem dX9_add_9 : decode cX9_add 9 = .ok (.iadd, 1) := by decide +kernel
theorem dX9_add_10 : decode cX9_add 10 = .ok (.dup2, 1) := by decide +kernel
theorem dX9_add_11 : decode cX9_add 11 = .ok (.iaload, 1) := by decide +kernel
theorem dX9_add_12 : decode cX9_add 12 = .ok (.iload_n 3, 1) := by decide +kernel
theorem dX9_add_13 : decode cX9_add 13 = .ok (.iadd, 1) := by decide +kernel
theorem dX9_add_14 : decode cX9_add 14 = .ok (.iastore, 1) := by decide +kernel
theorem dX9_add_15 : decode cX9_add 15 = .ok (.return_, 1) := by decide +kernel
set_option maxRecDepth 20000 in
theorem ggX9_say_X9_isEnd : GoodIn wsX9_say wsX9_isEnd := goodIn_r _ [7, 8, 9, 6, 10] (by decide +kernel) (by decide +kernel)
set_option maxRecDepth 20000 in
theorem gX9_say_X9_isEnd : GoodIn wsX9_say (va_wsS RX9 103 yX9_isEnd wsX9_isEnd) := goodIn_app (goodIn_of _ (by decide +kernel)) ggX9_say_X9_isEnd
set_option maxRecDepth 20000 in
theorem ggX9_say_X9_of : GoodIn wsX9_say wsX9_of := goodIn_r _ [14, 15, 20, 21, 22, 23, 24, 25, 26, 27, 28, 29, 30, 31, 32, 33, 34, 35, 36, 37, 38, 39, 40, 41, 42, 43, 44, 45, 46, 47, 48, 49] (by decide +kernel) (by decide +kernel)
set_option maxRecDepth 20000 in
theorem gX9_say_X9_of : GoodIn wsX9_say (wsV RX9 106 RX9 yX9_of wsX9_of) := goodIn_app (goodIn_of _ (by decide +kernel)) ggX9_say_X9_of
set_option maxRecDepth 20000 in
theorem ggX9_say_X9_add : GoodIn wsX9_say wsX9_add := goodIn_r _ [19, 15, 20, 21, 22, 23, 24, 25, 26, 27, 28, 29, 30, 31, 32, 33, 34, 35, 36, 37, 38, 39, 40, 41, 42, 43, 44, 45, 46, 47, 48, 49] (by decide +kernel) (by decide +kernel)
set_option maxRecDepth 20000 in
theorem gX9_say_X9_add : GoodIn wsX9_say (wsV RX9 110 RX9 yX9_add wsX9_add) := goodIn_app (goodIn_of _ (by decide +kernel)) ggX9_say_X9_add
theorem dX9_say_0 : decode cX9_say 0 = .ok (.iload_n 1, 1) := by decide +kernel
theorem dX9_say_1 : decode cX9_say 1 = .ok (.invokestatic 103, 3) := by decide +kernel
theorem dX9_say_4 : decode cX9_say 4 = .ok (.ifCond .ne 7, 3) := by decide +kernel
theorem dX9_say_7 : decode cX9_say 7 = .ok (.sipush (-1001), 3) := by decide +kernel
theorem dX9_say_10 : decode cX9_say 10 = .ok (.ireturn, 1) := by decide +kernel
theorem dX9_say_11 : decode cX9_say 11 = .ok (.aload_n 0, 1) := by decide +kernel
theorem dX9_say_12 : decode cX9_say 12 = .ok (.iload_n 1, 1) := by decide +kernel
theorem dX9_say_13 : decode cX9_say 13 = .ok (.bipush 6, 2) := by decide +kernel
theorem dX9_say_15 : decode cX9_say 15 = .ok (.invokevirtual 106, 3) := by decide +kernel
theorem dX9_say_18 : decode cX9_say 18 = .ok (.istore_n 2, 1) := by decide +kernel
theorem dX9_say_19 : decode cX9_say 19 = .ok (.iload_n 2, 1) := by decide +kernel
theorem dX9_say_20 : decode cX9_say 20 = .ok (.aload_n 0, 1) := by decide +kernel
theorem dX9_say_21 : decode cX9_say 21 = .ok (.getfield 69, 3) := by decide +kernel
theorem dX9_say_24 : decode cX9_say 24 = .ok (.iadd, 1) := by decide +kernel
theorem dX9_say_25 : decode cX9_say 25 = .ok (.sipush 200, 3) := by decide +kernel
theorem dX9_say_28 : decode cX9_say 28 = .ok (.if_icmp .le 7, 3) := by decide +kernel
theorem dX9_say_31 : decode cX9_say 31 = .ok (.sipush (-1004), 3) := by decide +kernel
theorem dX9_say_34 : decode cX9_say 34 = .ok (.ireturn, 1) := by decide +kernel
theorem dX9_say_35 : decode cX9_say 35 = .ok (.iconst 0, 1) := by decide +kernel
theorem dX9_say_36 : decode cX9_say 36 = .ok (.istore_n 3, 1) := by decide +kernel
theorem dX9_say_37 : decode cX9_say 37 = .ok (.iload_n 3, 1) := by decide +kernel
theorem dX9_say_38 : decode cX9_say 38 = .ok (.aload_n 0, 1) := by decide +kernel
theorem dX9_say_39 : decode cX9_say 39 = .ok (.getfield 69, 3) := by decide +kernel
theorem dX9_say_42 : decode cX9_say 42 = .ok (.if_icmp .ge 29, 3) := by decide +kernel
theorem dX9_say_45 : decode cX9_say 45 = .ok (.aload_n 0, 1) := by decide +kernel
theorem dX9_say_46 : decode cX9_say 46 = .ok (.getfield 22, 3) := by decide +kernel
theorem dX9_say_49 : decode cX9_say 49 = .ok (.sipush 200, 3) := by decide +kernel
theorem dX9_say_52 : decode cX9_say 52 = .ok (.iload_n 1, 1) := by decide +kernel
theorem dX9_say_53 : decode cX9_say 53 = .ok (.imul, 1) := by decide +kernel
theorem dX9_say_54 : decode cX9_say 54 = .ok (.iload_n 2, 1) := by decide +kernel
theorem dX9_say_55 : decode cX9_say 55 = .ok (.iadd, 1) := by decide +kernel
theorem dX9_say_56 : decode cX9_say 56 = .ok (.iload_n 3, 1) := by decide +kernel
theorem dX9_say_57 : decode cX9_say 57 = .ok (.iadd, 1) := by decide +kernel
theorem dX9_say_58 : decode cX9_say 58 = .ok (.aload_n 0, 1) := by decide +kernel
theorem dX9_say_59 : decode cX9_say 59 = .ok (.getfield 53, 3) := by decide +kernel
theorem dX9_say_62 : decode cX9_say 62 = .ok (.iload_n 3, 1) := by decide +kernel
theorem dX9_say_63 : decode cX9_say 63 = .ok (.iaload, 1) := by decide +kernel
theorem dX9_say_64 : decode cX9_say 64 = .ok (.iastore, 1) := by decide +kernel
theorem dX9_say_65 : decode cX9_say 65 = .ok (.iinc 3 1, 3) := by decide +kernel
theorem dX9_say_68 : decode cX9_say 68 = .ok (.goto (-31), 3) := by decide +kernel
theorem dX9_say_71 : decode cX9_say 71 = .ok (.aload_n 0, 1) := by decide +kernel
theorem dX9_say_72 : decode cX9_say 72 = .ok (.iload_n 1, 1) := by decide +kernel
theorem dX9_say_73 : decode cX9_say 73 = .ok (.bipush 6, 2) := by decide +kernel
theorem dX9_say_75 : decode cX9_say 75 = .ok (.aload_n 0, 1) := by decide +kernel
theorem dX9_say_76 : decode cX9_say 76 = .ok (.getfield 69, 3) := by decide +kernel
theorem dX9_say_79 : decode cX9_say 79 = .ok (.invokevirtual 110, 3) := by decide +kernel
theorem dX9_say_82 : decode cX9_say 82 = .ok (.aload_n 0, 1) := by decide +kernel
theorem dX9_say_83 : decode cX9_say 83 = .ok (.iconst 0, 1) := by decide +kernel
theorem dX9_say_84 : decode cX9_say 84 = .ok (.putfield 69, 3) := by decide +kernel
theorem dX9_say_87 : decode cX9_say 87 = .ok (.aload_n 0, 1) := by decide +kernel
theorem dX9_say_88 : decode cX9_say 88 = .ok (.iload_n 1, 1) := by decide +kernel
theorem dX9_say_89 : decode cX9_say 89 = .ok (.bipush 6, 2) := by decide +kernel
theorem dX9_say_91 : decode cX9_say 91 = .ok (.invokevirtual 106, 3) := by decide +kernel
theorem dX9_say_94 : decode cX9_say 94 = .ok (.ireturn, 1) := by decide +kernel
set_option maxRecDepth 20000 in
theorem ggX9_echo_X9_isEnd : GoodIn wsX9_echo wsX9_isEnd := goodIn_r _ [5, 6, 7, 4, 8] (by decide +kernel) (by decide +kernel)
set_option maxRecDepth 20000 in
theorem gX9_echo_X9_isEnd : GoodIn wsX9_echo (va_wsS RX9 103 yX9_isEnd wsX9_isEnd) := goodIn_app (goodIn_of _ (by decide +kernel)) ggX9_echo_X9_isEnd
set_option maxRecDepth 20000 in
theorem ggX9_echo_X9_within : GoodIn wsX9_echo wsX9_within := goodIn_r _ [8] (by decide +kernel) (by decide +kernel)
set_option maxRecDepth 20000 in
theorem gX9_echo_X9_within : GoodIn wsX9_echo (va_wsS RX9 65 yX9_within wsX9_within) := goodIn_app (goodIn_of _ (by decide +kernel)) ggX9_echo_X9_within
theorem dX9_echo_0 : decode cX9_echo 0 = .ok (.iload_n 1, 1) := by decide +kernel
theorem dX9_echo_1 : decode cX9_echo 1 = .ok (.invokestatic 103, 3) := by decide +kernel
theorem dX9_echo_4 : decode cX9_echo 4 = .ok (.ifCond .eq 12, 3) := by decide +kernel
theorem dX9_echo_7 : decode cX9_echo 7 = .ok (.iload_n 2, 1) := by decide +kernel
theorem dX9_echo_8 : decode cX9_echo 8 = .ok (.iconst 0, 1) := by decide +kernel
theorem dX9_echo_9 : decode cX9_echo 9 = .ok (.iconst 3, 1) := by decide +kernel
theorem dX9_echo_10 : decode cX9_echo 10 = .ok (.invokestatic 65, 3) := by decide +kernel
theorem dX9_echo_13 : decode cX9_echo 13 = .ok (.ifCond .ne 7, 3) := by decide +kernel
theorem dX9_echo_16 : decode cX9_echo 16 = .ok (.sipush (-1001), 3) := by decide +kernel
theorem dX9_echo_19 : decode cX9_echo 19 = .ok (.ireturn, 1) := by decide +kernel
theorem dX9_echo_20 : decode cX9_echo 20 = .ok (.iload_n 3, 1) := by decide +kernel
theorem dX9_echo_21 : decode cX9_echo 21 = .ok (.bipush (-100), 2) := by decide +kernel
theorem dX9_echo_23 : decode cX9_echo 23 = .ok (.bipush 100, 2) := by decide +kernel
theorem dX9_echo_25 : decode cX9_echo 25 = .ok (.invokestatic 65, 3) := by decide +kernel
theorem dX9_echo_28 : decode cX9_echo 28 = .ok (.ifCond .ne 7, 3) := by decide +kernel
theorem dX9_echo_31 : decode cX9_echo 31 = .ok (.sipush (-1002), 3) := by decide +kernel
theorem dX9_echo_34 : decode cX9_echo 34 = .ok (.ireturn, 1) := by decide +kernel
theorem dX9_echo_35 : decode cX9_echo 35 = .ok (.aload_n 0, 1) := by decide +kernel
theorem dX9_echo_36 : decode cX9_echo 36 = .ok (.getfield 19, 3) := by decide +kernel
theorem dX9_echo_39 : decode cX9_echo 39 = .ok (.iconst 4, 1) := by decide +kernel
theorem dX9_echo_40 : decode cX9_echo 40 = .ok (.iload_n 1, 1) := by decide +kernel
theorem dX9_echo_41 : decode cX9_echo 41 = .ok (.imul, 1) := by decide +kernel
theorem dX9_echo_42 : decode cX9_echo 42 = .ok (.iload_n 2, 1) := by decide +kernel
theorem dX9_echo_43 : decode cX9_echo 43 = .ok (.iadd, 1) := by decide +kernel
theorem dX9_echo_44 : decode cX9_echo 44 = .ok (.iaload, 1) := by decide +kernel
theorem dX9_echo_45 : decode cX9_echo 45 = .ok (.istore 4, 2) := by decide +kernel
theorem dX9_echo_47 : decode cX9_echo 47 = .ok (.aload_n 0, 1) := by decide +kernel
theorem dX9_echo_48 : decode cX9_echo 48 = .ok (.getfield 19, 3) := by decide +kernel
theorem dX9_echo_51 : decode cX9_echo 51 = .ok (.iconst 4, 1) := by decide +kernel
theorem dX9_echo_52 : decode cX9_echo 52 = .ok (.iload_n 1, 1) := by decide +kernel
theorem dX9_echo_53 : decode cX9_echo 53 = .ok (.imul, 1) := by decide +kernel
theorem dX9_echo_54 : decode cX9_echo 54 = .ok (.iload_n 2, 1) := by decide +kernel
theorem dX9_echo_55 : decode cX9_echo 55 = .ok (.iadd, 1) := by decide +kernel
theorem dX9_echo_56 : decode cX9_echo 56 = .ok (.iload_n 3, 1) := by decide +kernel
theorem dX9_echo_57 : decode cX9_echo 57 = .ok (.iastore, 1) := by decide +kernel
theorem dX9_echo_58 : decode cX9_echo 58 = .ok (.iload 4, 2) := by decide +kernel
theorem dX9_echo_60 : decode cX9_echo 60 = .ok (.ireturn, 1) := by decide +kernel
set_option maxRecDepth 20000 in
theorem ggX9_goesTo_X9_put : GoodIn wsX9_goesTo wsX9_put := goodIn_r _ [5, 6, 7, 8, 9, 10, 11, 12, 13, 14, 15, 16, 17, 18, 19, 20, 21, 22, 23, 24, 25, 26, 27, 28, 29, 30, 31, 32, 33, 34, 35, 36] (by decide +kernel) (by decide +kernel)
set_option maxRecDepth 20000 in
theorem gX9_goesTo_X9_put : GoodIn wsX9_goesTo (wsV RX9 114 RX9 yX9_put wsX9_put) := goodIn_app (goodIn_of _ (by decide +kernel)) ggX9_goesTo_X9_put
theorem dX9_goesTo_0 : decode cX9_goesTo 0 = .ok (.aload_n 0, 1) := by decide +kernel
theorem dX9_goesTo_1 : decode cX9_goesTo 1 = .ok (.iload_n 1, 1) := by decide +kernel
theorem dX9_goesTo_2 : decode cX9_goesTo 2 = .ok (.iconst 0, 1) := by decide +kernel
theorem dX9_goesTo_3 : decode cX9_goesTo 3 = .ok (.iload_n 2, 1) := by decide +kernel
theorem dX9_goesTo_4 : decode cX9_goesTo 4 = .ok (.invokevirtual 114, 3) := by decide +kernel
theorem dX9_goesTo_7 : decode cX9_goesTo 7 = .ok (.aload_n 0, 1) := by decide +kernel
theorem dX9_goesTo_8 : decode cX9_goesTo 8 = .ok (.iload_n 1, 1) := by decide +kernel
theorem dX9_goesTo_9 : decode cX9_goesTo 9 = .ok (.iconst 1, 1) := by decide +kernel
theorem dX9_goesTo_10 : decode cX9_goesTo 10 = .ok (.iconst 0, 1) := by decide +kernel
theorem dX9_goesTo_11 : decode cX9_goesTo 11 = .ok (.invokevirtual 114, 3) := by decide +kernel
theorem dX9_goesTo_14 : decode cX9_goesTo 14 = .ok (.return_, 1) := by decide +kernel
set_option maxRecDepth 20000 in
theorem ggX9_call_X9_isEnd : GoodIn wsX9_call wsX9_isEnd := goodIn_r _ [4, 5, 6, 3, 7] (by decide +kernel) (by decide +kernel)
set_option maxRecDepth 20000 in
theorem gX9_call_X9_isEnd : GoodIn wsX9_call (va_wsS RX9 103 yX9_isEnd wsX9_isEnd) := goodIn_app (goodIn_of _ (by decide +kernel)) ggX9_call_X9_isEnd
set_option maxRecDepth 20000 in
theorem ggX9_call_X9_of : GoodIn wsX9_call wsX9_of := goodIn_r _ [11, 12, 21, 22, 23, 24, 25, 26, 27, 28, 29, 30, 31, 32, 33, 34, 35, 36, 37, 38, 39, 40, 41, 42, 43, 44, 45, 46, 47, 48, 49, 50] (by decide +kernel) (by decide +kernel)
set_option maxRecDepth 20000 in
theorem gX9_call_X9_of : GoodIn wsX9_call (wsV RX9 106 RX9 yX9_of wsX9_of) := goodIn_app (goodIn_of _ (by decide +kernel)) ggX9_call_X9_of
set_option maxRecDepth 20000 in
theorem ggX9_call_X9_goesTo : GoodIn wsX9_call wsX9_goesTo := goodIn_r _ [16, 17, 18, 19, 3, 20, 12, 21, 22, 23, 24, 25, 26, 27, 28, 29, 30, 31, 32, 33, 34, 35, 36, 37, 38, 39, 40, 41, 42, 43, 44, 45, 46, 47, 48, 49, 50] (by decide +kernel) (by decide +kernel)
set_option maxRecDepth 20000 in
theorem gX9_call_X9_goesTo : GoodIn wsX9_call (wsV RX9 117 RX9 yX9_goesTo wsX9_goesTo) := goodIn_app (goodIn_of _ (by decide +kernel)) ggX9_call_X9_goesTo
theorem dX9_call_0 : decode cX9_call 0 = .ok (.iload_n 1, 1) := by decide +kernel
theorem dX9_call_1 : decode cX9_call 1 = .ok (.invokestatic 103, 3) := by decide +kernel
theorem dX9_call_4 : decode cX9_call 4 = .ok (.ifCond .ne 7, 3) := by decide +kernel
theorem dX9_call_7 : decode cX9_call 7 = .ok (.sipush (-1001), 3) := by decide +kernel
theorem dX9_call_10 : decode cX9_call 10 = .ok (.ireturn, 1) := by decide +kernel
theorem dX9_call_11 : decode cX9_call 11 = .ok (.aload_n 0, 1) := by decide +kernel
theorem dX9_call_12 : decode cX9_call 12 = .ok (.iload_n 1, 1) := by decide +kernel
theorem dX9_call_13 : decode cX9_call 13 = .ok (.iconst 0, 1) := by decide +kernel
theorem dX9_call_14 : decode cX9_call 14 = .ok (.invokevirtual 106, 3) := by decide +kernel
theorem dX9_call_17 : decode cX9_call 17 = .ok (.ifCond .eq 7, 3) := by decide +kernel
theorem dX9_call_20 : decode cX9_call 20 = .ok (.sipush (-1003), 3) := by decide +kernel
theorem dX9_call_23 : decode cX9_call 23 = .ok (.ireturn, 1) := by decide +kernel
theorem dX9_call_24 : decode cX9_call 24 = .ok (.aload_n 0, 1) := by decide +kernel
theorem dX9_call_25 : decode cX9_call 25 = .ok (.iload_n 1, 1) := by decide +kernel
theorem dX9_call_26 : decode cX9_call 26 = .ok (.iconst 1, 1) := by decide +kernel
theorem dX9_call_27 : decode cX9_call 27 = .ok (.invokevirtual 117, 3) := by decide +kernel
theorem dX9_call_30 : decode cX9_call 30 = .ok (.iconst 1, 1) := by decide +kernel
theorem dX9_call_31 : decode cX9_call 31 = .ok (.ireturn, 1) := by decide +kernel
set_option maxRecDepth 20000 in
theorem ggX9_hang_X9_isEnd : GoodIn wsX9_hang wsX9_isEnd := goodIn_r _ [4, 5, 6, 3, 7] (by decide +kernel) (by decide +kernel)
set_option maxRecDepth 20000 in
theorem gX9_hang_X9_isEnd : GoodIn wsX9_hang (va_wsS RX9 103 yX9_isEnd wsX9_isEnd) := goodIn_app (goodIn_of _ (by decide +kernel)) ggX9_hang_X9_isEnd
set_option maxRecDepth 20000 in
theorem ggX9_hang_X9_of : GoodIn wsX9_hang wsX9_of := goodIn_r _ [11, 12, 21, 22, 23, 24, 25, 26, 27, 28, 29, 30, 31, 32, 33, 34, 35, 36, 37, 38, 39, 40, 41, 42, 43, 44, 45, 46, 47, 48, 49, 50] (by decide +kernel) (by decide +kernel)
set_option maxRecDepth 20000 in
theorem gX9_hang_X9_of : GoodIn wsX9_hang (wsV RX9 106 RX9 yX9_of wsX9_of) := goodIn_app (goodIn_of _ (by decide +kernel)) ggX9_hang_X9_of
set_option maxRecDepth 20000 in
theorem ggX9_hang_X9_goesTo : GoodIn wsX9_hang wsX9_goesTo := goodIn_r _ [16, 17, 18, 19, 3, 20, 12, 21, 22, 23, 24, 25, 26, 27, 28, 29, 30, 31, 32, 33, 34, 35, 36, 37, 38, 39, 40, 41, 42, 43, 44, 45, 46, 47, 48, 49, 50] (by decide +kernel) (by decide +kernel)
set_option maxRecDepth 20000 in
theorem gX9_hang_X9_goesTo : GoodIn wsX9_hang (wsV RX9 117 RX9 yX9_goesTo wsX9_goesTo) := goodIn_app (goodIn_of _ (by decide +kernel)) ggX9_hang_X9_goesTo
theorem dX9_hang_0 : decode cX9_hang 0 = .ok (.iload_n 1, 1) := by decide +kernel
theorem dX9_hang_1 : decode cX9_hang 1 = .ok (.invokestatic 103, 3) := by decide +kernel
theorem dX9_hang_4 : decode cX9_hang 4 = .ok (.ifCond .ne 7, 3) := by decide +kernel
theorem dX9_hang_7 : decode cX9_hang 7 = .ok (.sipush (-1001), 3) := by decide +kernel
theorem dX9_hang_10 : decode cX9_hang 10 = .ok (.ireturn, 1) := by decide +kernel
theorem dX9_hang_11 : decode cX9_hang 11 = .ok (.aload_n 0, 1) := by decide +kernel
theorem dX9_hang_12 : decode cX9_hang 12 = .ok (.iload_n 1, 1) := by decide +kernel
theorem dX9_hang_13 : decode cX9_hang 13 = .ok (.iconst 0, 1) := by decide +kernel
theorem dX9_hang_14 : decode cX9_hang 14 = .ok (.invokevirtual 106, 3) := by decide +kernel
theorem dX9_hang_17 : decode cX9_hang 17 = .ok (.istore_n 2, 1) := by decide +kernel
theorem dX9_hang_18 : decode cX9_hang 18 = .ok (.iload_n 2, 1) := by decide +kernel
theorem dX9_hang_19 : decode cX9_hang 19 = .ok (.ifCond .ne 7, 3) := by decide +kernel
theorem dX9_hang_22 : decode cX9_hang 22 = .ok (.sipush (-1003), 3) := by decide +kernel
theorem dX9_hang_25 : decode cX9_hang 25 = .ok (.ireturn, 1) := by decide +kernel
theorem dX9_hang_26 : decode cX9_hang 26 = .ok (.aload_n 0, 1) := by decide +kernel
theorem dX9_hang_27 : decode cX9_hang 27 = .ok (.iload_n 1, 1) := by decide +kernel
theorem dX9_hang_28 : decode cX9_hang 28 = .ok (.iconst 0, 1) := by decide +kernel
theorem dX9_hang_29 : decode cX9_hang 29 = .ok (.invokevirtual 117, 3) := by decide +kernel
theorem dX9_hang_32 : decode cX9_hang 32 = .ok (.iload_n 2, 1) := by decide +kernel
theorem dX9_hang_33 : decode cX9_hang 33 = .ok (.ireturn, 1) := by decide +kernel
theorem dX9_slot_0 : decode cX9_slot 0 = .ok (.bipush 8, 2) := by decide +kernel
theorem dX9_slot_2 : decode cX9_slot 2 = .ok (.bipush 16, 2) := by decide +kernel
theorem dX9_slot_4 : decode cX9_slot 4 = .ok (.iload_n 1, 1) := by decide +kernel
theorem dX9_slot_5 : decode cX9_slot 5 = .ok (.imul, 1) := by decide +kernel
theorem dX9_slot_6 : decode cX9_slot 6 = .ok (.iload_n 2, 1) := by decide +kernel
theorem dX9_slot_7 : decode cX9_slot 7 = .ok (.bipush 16, 2) := by decide +kernel
theorem dX9_slot_9 : decode cX9_slot 9 = .ok (.irem, 1) := by decide +kernel
theorem dX9_slot_10 : decode cX9_slot 10 = .ok (.iadd, 1) := by decide +kernel
theorem dX9_slot_11 : decode cX9_slot 11 = .ok (.imul, 1) := by decide +kernel
theorem dX9_slot_12 : decode cX9_slot 12 = .ok (.ireturn, 1) := by decide +kernel
theorem dX9_ear_0 : decode cX9_ear 0 = .ok (.aload_n 0, 1) := by decide +kernel
theorem dX9_ear_1 : decode cX9_ear 1 = .ok (.getfield 28, 3) := by decide +kernel
theorem dX9_ear_4 : decode cX9_ear 4 = .ok (.iconst 5, 1) := by decide +kernel
theorem dX9_ear_5 : decode cX9_ear 5 = .ok (.iload_n 1, 1) := by decide +kernel
theorem dX9_ear_6 : decode cX9_ear 6 = .ok (.imul, 1) := by decide +kernel
theorem dX9_ear_7 : decode cX9_ear 7 = .ok (.iload_n 2, 1) := by decide +kernel
theorem dX9_ear_8 : decode cX9_ear 8 = .ok (.iadd, 1) := by decide +kernel
theorem dX9_ear_9 : decode cX9_ear 9 = .ok (.iaload, 1) := by decide +kernel
theorem dX9_ear_10 : decode cX9_ear 10 = .ok (.ireturn, 1) := by decide +kernel
set_option maxRecDepth 20000 in
theorem ggX9_hear_X9_slot : GoodIn wsX9_hear wsX9_slot := goodIn_r _ [13] (by decide +kernel) (by decide +kernel)
set_option maxRecDepth 20000 in
theorem gX9_hear_X9_slot : GoodIn wsX9_hear (wsV RX9 124 RX9 yX9_slot wsX9_slot) := goodIn_app (goodIn_of _ (by decide +kernel)) ggX9_hear_X9_slot
theorem dX9_hear_0 : decode cX9_hear 0 = .ok (.iconst 1, 1) := by decide +kernel
theorem dX9_hear_1 : decode cX9_hear 1 = .ok (.iload_n 1, 1) := by decide +kernel
theorem dX9_hear_2 : decode cX9_hear 2 = .ok (.isub, 1) := by decide +kernel
theorem dX9_hear_3 : decode cX9_hear 3 = .ok (.istore_n 2, 1) := by decide +kernel
theorem dX9_hear_4 : decode cX9_hear 4 = .ok (.aload_n 0, 1) := by decide +kernel
theorem dX9_hear_5 : decode cX9_hear 5 = .ok (.iload_n 2, 1) := by decide +kernel
theorem dX9_hear_6 : decode cX9_hear 6 = .ok (.aload_n 0, 1) := by decide +kernel
theorem dX9_hear_7 : decode cX9_hear 7 = .ok (.getfield 121, 3) := by decide +kernel
theorem dX9_hear_10 : decode cX9_hear 10 = .ok (.invokevirtual 124, 3) := by decide +kernel
theorem dX9_hear_13 : decode cX9_hear 13 = .ok (.istore_n 3, 1) := by decide +kernel
theorem dX9_hear_14 : decode cX9_hear 14 = .ok (.aload_n 0, 1) := by decide +kernel
theorem dX9_hear_15 : decode cX9_hear 15 = .ok (.getfield 41, 3) := by decide +kernel
theorem dX9_hear_18 : decode cX9_hear 18 = .ok (.iload_n 3, 1) := by decide +kernel
theorem dX9_hear_19 : decode cX9_hear 19 = .ok (.iaload, 1) := by decide +kernel
theorem dX9_hear_20 : decode cX9_hear 20 = .ok (.iconst 1, 1) := by decide +kernel
theorem dX9_hear_21 : decode cX9_hear 21 = .ok (.if_icmp .ne 7, 3) := by decide +kernel
theorem dX9_hear_24 : decode cX9_hear 24 = .ok (.iconst 1, 1) := by decide +kernel
theorem dX9_hear_25 : decode cX9_hear 25 = .ok (.goto 4, 3) := by decide +kernel
theorem dX9_hear_28 : decode cX9_hear 28 = .ok (.iconst 0, 1) := by decide +kernel
theorem dX9_hear_29 : decode cX9_hear 29 = .ok (.istore 4, 2) := by decide +kernel
theorem dX9_hear_31 : decode cX9_hear 31 = .ok (.aload_n 0, 1) := by decide +kernel
theorem dX9_hear_32 : decode cX9_hear 32 = .ok (.getfield 47, 3) := by decide +kernel
theorem dX9_hear_35 : decode cX9_hear 35 = .ok (.iload_n 2, 1) := by decide +kernel
theorem dX9_hear_36 : decode cX9_hear 36 = .ok (.dup2, 1) := by decide +kernel
theorem dX9_hear_37 : decode cX9_hear 37 = .ok (.iaload, 1) := by decide +kernel
theorem dX9_hear_38 : decode cX9_hear 38 = .ok (.iload 4, 2) := by decide +kernel
theorem dX9_hear_40 : decode cX9_hear 40 = .ok (.ifCond .eq 7, 3) := by decide +kernel
theorem dX9_hear_43 : decode cX9_hear 43 = .ok (.iconst 1, 1) := by decide +kernel
theorem dX9_hear_44 : decode cX9_hear 44 = .ok (.goto 4, 3) := by decide +kernel
theorem dX9_hear_47 : decode cX9_hear 47 = .ok (.iconst 0, 1) := by decide +kernel
theorem dX9_hear_48 : decode cX9_hear 48 = .ok (.iadd, 1) := by decide +kernel
theorem dX9_hear_49 : decode cX9_hear 49 = .ok (.iastore, 1) := by decide +kernel
theorem dX9_hear_50 : decode cX9_hear 50 = .ok (.iload 4, 2) := by decide +kernel
theorem dX9_hear_52 : decode cX9_hear 52 = .ok (.ifCond .eq 32, 3) := by decide +kernel
theorem dX9_hear_55 : decode cX9_hear 55 = .ok (.aload_n 0, 1) := by decide +kernel
theorem dX9_hear_56 : decode cX9_hear 56 = .ok (.getfield 38, 3) := by decide +kernel
theorem dX9_hear_59 : decode cX9_hear 59 = .ok (.iload_n 2, 1) := by decide +kernel
theorem dX9_hear_60 : decode cX9_hear 60 = .ok (.iaload, 1) := by decide +kernel
theorem dX9_hear_61 : decode cX9_hear 61 = .ok (.ifCond .le 23, 3) := by decide +kernel
theorem dX9_hear_64 : decode cX9_hear 64 = .ok (.aload_n 0, 1) := by decide +kernel
theorem dX9_hear_65 : decode cX9_hear 65 = .ok (.getfield 47, 3) := by decide +kernel
theorem dX9_hear_68 : decode cX9_hear 68 = .ok (.iload_n 2, 1) := by decide +kernel
theorem dX9_hear_69 : decode cX9_hear 69 = .ok (.iaload, 1) := by decide +kernel
theorem dX9_hear_70 : decode cX9_hear 70 = .ok (.aload_n 0, 1) := by decide +kernel
theorem dX9_hear_71 : decode cX9_hear 71 = .ok (.getfield 38, 3) := by decide +kernel
theorem dX9_hear_74 : decode cX9_hear 74 = .ok (.iload_n 2, 1) := by decide +kernel
theorem dX9_hear_75 : decode cX9_hear 75 = .ok (.iaload, 1) := by decide +kernel
theorem dX9_hear_76 : decode cX9_hear 76 = .ok (.irem, 1) := by decide +kernel
theorem dX9_hear_77 : decode cX9_hear 77 = .ok (.ifCond .ne 7, 3) := by decide +kernel
theorem dX9_hear_80 : decode cX9_hear 80 = .ok (.iconst 1, 1) := by decide +kernel
theorem dX9_hear_81 : decode cX9_hear 81 = .ok (.goto 4, 3) := by decide +kernel
theorem dX9_hear_84 : decode cX9_hear 84 = .ok (.iconst 0, 1) := by decide +kernel
theorem dX9_hear_85 : decode cX9_hear 85 = .ok (.istore 5, 2) := by decide +kernel
theorem dX9_hear_87 : decode cX9_hear 87 = .ok (.aload_n 0, 1) := by decide +kernel
theorem dX9_hear_88 : decode cX9_hear 88 = .ok (.getfield 50, 3) := by decide +kernel
theorem dX9_hear_91 : decode cX9_hear 91 = .ok (.iload_n 2, 1) := by decide +kernel
theorem dX9_hear_92 : decode cX9_hear 92 = .ok (.dup2, 1) := by decide +kernel
theorem dX9_hear_93 : decode cX9_hear 93 = .ok (.iaload, 1) := by decide +kernel
theorem dX9_hear_94 : decode cX9_hear 94 = .ok (.iload 5, 2) := by decide +kernel
theorem dX9_hear_96 : decode cX9_hear 96 = .ok (.ifCond .eq 7, 3) := by decide +kernel
theorem dX9_hear_99 : decode cX9_hear 99 = .ok (.iconst 1, 1) := by decide +kernel
theorem dX9_hear_100 : decode cX9_hear 100 = .ok (.goto 4, 3) := by decide +kernel
theorem dX9_hear_103 : decode cX9_hear 103 = .ok (.iconst 0, 1) := by decide +kernel
theorem dX9_hear_104 : decode cX9_hear 104 = .ok (.iadd, 1) := by decide +kernel
theorem dX9_hear_105 : decode cX9_hear 105 = .ok (.iastore, 1) := by decide +kernel
theorem dX9_hear_106 : decode cX9_hear 106 = .ok (.iconst 0, 1) := by decide +kernel
theorem dX9_hear_107 : decode cX9_hear 107 = .ok (.istore 6, 2) := by decide +kernel
theorem dX9_hear_109 : decode cX9_hear 109 = .ok (.iload 6, 2) := by decide +kernel
theorem dX9_hear_111 : decode cX9_hear 111 = .ok (.iconst 4, 1) := by decide +kernel
theorem dX9_hear_112 : decode cX9_hear 112 = .ok (.if_icmp .ge 45, 3) := by decide +kernel
theorem dX9_hear_115 : decode cX9_hear 115 = .ok (.aload_n 0, 1) := by decide +kernel
theorem dX9_hear_116 : decode cX9_hear 116 = .ok (.getfield 28, 3) := by decide +kernel
theorem dX9_hear_119 : decode cX9_hear 119 = .ok (.iconst 5, 1) := by decide +kernel
theorem dX9_hear_120 : decode cX9_hear 120 = .ok (.iload_n 1, 1) := by decide +kernel
theorem dX9_hear_121 : decode cX9_hear 121 = .ok (.imul, 1) := by decide +kernel
theorem dX9_hear_122 : decode cX9_hear 122 = .ok (.iload 6, 2) := by decide +kernel
theorem dX9_hear_124 : decode cX9_hear 124 = .ok (.iadd, 1) := by decide +kernel
theorem dX9_hear_125 : decode cX9_hear 125 = .ok (.iload 4, 2) := by decide +kernel
theorem dX9_hear_127 : decode cX9_hear 127 = .ok (.ifCond .eq 22, 3) := by decide +kernel
theorem dX9_hear_130 : decode cX9_hear 130 = .ok (.iload 5, 2) := by decide +kernel
theorem dX9_hear_132 : decode cX9_hear 132 = .ok (.ifCond .ne 17, 3) := by decide +kernel
theorem dX9_hear_135 : decode cX9_hear 135 = .ok (.aload_n 0, 1) := by decide +kernel
theorem dX9_hear_136 : decode cX9_hear 136 = .ok (.getfield 41, 3) := by decide +kernel
theorem dX9_hear_139 : decode cX9_hear 139 = .ok (.iload_n 3, 1) := by decide +kernel
theorem dX9_hear_140 : decode cX9_hear 140 = .ok (.iconst 1, 1) := by decide +kernel
theorem dX9_hear_141 : decode cX9_hear 141 = .ok (.iadd, 1) := by decide +kernel
theorem dX9_hear_142 : decode cX9_hear 142 = .ok (.iload 6, 2) := by decide +kernel
theorem dX9_hear_144 : decode cX9_hear 144 = .ok (.iadd, 1) := by decide +kernel
theorem dX9_hear_145 : decode cX9_hear 145 = .ok (.iaload, 1) := by decide +kernel
theorem dX9_hear_146 : decode cX9_hear 146 = .ok (.goto 4, 3) := by decide +kernel
theorem dX9_hear_149 : decode cX9_hear 149 = .ok (.iconst 0, 1) := by decide +kernel
theorem dX9_hear_150 : decode cX9_hear 150 = .ok (.iastore, 1) := by decide +kernel
theorem dX9_hear_151 : decode cX9_hear 151 = .ok (.iinc 6 1, 3) := by decide +kernel
theorem dX9_hear_154 : decode cX9_hear 154 = .ok (.goto (-45), 3) := by decide +kernel
theorem dX9_hear_157 : decode cX9_hear 157 = .ok (.aload_n 0, 1) := by decide +kernel
theorem dX9_hear_158 : decode cX9_hear 158 = .ok (.getfield 28, 3) := by decide +kernel
theorem dX9_hear_161 : decode cX9_hear 161 = .ok (.iconst 5, 1) := by decide +kernel
theorem dX9_hear_162 : decode cX9_hear 162 = .ok (.iload_n 1, 1) := by decide +kernel
theorem dX9_hear_163 : decode cX9_hear 163 = .ok (.imul, 1) := by decide +kernel
theorem dX9_hear_164 : decode cX9_hear 164 = .ok (.iconst 4, 1) := by decide +kernel
theorem dX9_hear_165 : decode cX9_hear 165 = .ok (.iadd, 1) := by decide +kernel
theorem dX9_hear_166 : decode cX9_hear 166 = .ok (.iload 4, 2) := by decide +kernel
theorem dX9_hear_168 : decode cX9_hear 168 = .ok (.ifCond .eq 20, 3) := by decide +kernel
theorem dX9_hear_171 : decode cX9_hear 171 = .ok (.iload 5, 2) := by decide +kernel
theorem dX9_hear_173 : decode cX9_hear 173 = .ok (.ifCond .ne 15, 3) := by decide +kernel
theorem dX9_hear_176 : decode cX9_hear 176 = .ok (.aload_n 0, 1) := by decide +kernel
theorem dX9_hear_177 : decode cX9_hear 177 = .ok (.getfield 44, 3) := by decide +kernel
theorem dX9_hear_180 : decode cX9_hear 180 = .ok (.iload_n 3, 1) := by decide +kernel
theorem dX9_hear_181 : decode cX9_hear 181 = .ok (.bipush 8, 2) := by decide +kernel
theorem dX9_hear_183 : decode cX9_hear 183 = .ok (.idiv, 1) := by decide +kernel
theorem dX9_hear_184 : decode cX9_hear 184 = .ok (.iaload, 1) := by decide +kernel
theorem dX9_hear_185 : decode cX9_hear 185 = .ok (.goto 4, 3) := by decide +kernel
theorem dX9_hear_188 : decode cX9_hear 188 = .ok (.iconst 0, 1) := by decide +kernel
theorem dX9_hear_189 : decode cX9_hear 189 = .ok (.iastore, 1) := by decide +kernel
theorem dX9_hear_190 : decode cX9_hear 190 = .ok (.iconst 0, 1) := by decide +kernel
theorem dX9_hear_191 : decode cX9_hear 191 = .ok (.istore 6, 2) := by decide +kernel
theorem dX9_hear_193 : decode cX9_hear 193 = .ok (.iload 6, 2) := by decide +kernel
theorem dX9_hear_195 : decode cX9_hear 195 = .ok (.iconst 3, 1) := by decide +kernel
theorem dX9_hear_196 : decode cX9_hear 196 = .ok (.if_icmp .ge 31, 3) := by decide +kernel
theorem dX9_hear_199 : decode cX9_hear 199 = .ok (.aload_n 0, 1) := by decide +kernel
theorem dX9_hear_200 : decode cX9_hear 200 = .ok (.getfield 62, 3) := by decide +kernel
theorem dX9_hear_203 : decode cX9_hear 203 = .ok (.iconst 3, 1) := by decide +kernel
theorem dX9_hear_204 : decode cX9_hear 204 = .ok (.iload_n 1, 1) := by decide +kernel
theorem dX9_hear_205 : decode cX9_hear 205 = .ok (.imul, 1) := by decide +kernel
theorem dX9_hear_206 : decode cX9_hear 206 = .ok (.iload 6, 2) := by decide +kernel
theorem dX9_hear_208 : decode cX9_hear 208 = .ok (.iadd, 1) := by decide +kernel
theorem dX9_hear_209 : decode cX9_hear 209 = .ok (.aload_n 0, 1) := by decide +kernel
theorem dX9_hear_210 : decode cX9_hear 210 = .ok (.getfield 41, 3) := by decide +kernel
theorem dX9_hear_213 : decode cX9_hear 213 = .ok (.iload_n 3, 1) := by decide +kernel
theorem dX9_hear_214 : decode cX9_hear 214 = .ok (.iconst 5, 1) := by decide +kernel
theorem dX9_hear_215 : decode cX9_hear 215 = .ok (.iadd, 1) := by decide +kernel
theorem dX9_hear_216 : decode cX9_hear 216 = .ok (.iload 6, 2) := by decide +kernel
theorem dX9_hear_218 : decode cX9_hear 218 = .ok (.iadd, 1) := by decide +kernel
theorem dX9_hear_219 : decode cX9_hear 219 = .ok (.iaload, 1) := by decide +kernel
theorem dX9_hear_220 : decode cX9_hear 220 = .ok (.iastore, 1) := by decide +kernel
theorem dX9_hear_221 : decode cX9_hear 221 = .ok (.iinc 6 1, 3) := by decide +kernel
theorem dX9_hear_224 : decode cX9_hear 224 = .ok (.goto (-31), 3) := by decide +kernel
theorem dX9_hear_227 : decode cX9_hear 227 = .ok (.aload_n 0, 1) := by decide +kernel
theorem dX9_hear_228 : decode cX9_hear 228 = .ok (.getfield 41, 3) := by decide +kernel
theorem dX9_hear_231 : decode cX9_hear 231 = .ok (.iload_n 3, 1) := by decide +kernel
theorem dX9_hear_232 : decode cX9_hear 232 = .ok (.iconst 0, 1) := by decide +kernel
theorem dX9_hear_233 : decode cX9_hear 233 = .ok (.iastore, 1) := by decide +kernel
theorem dX9_hear_234 : decode cX9_hear 234 = .ok (.return_, 1) := by decide +kernel
set_option maxRecDepth 20000 in
theorem ggX9_into_X9_goesTo : GoodIn wsX9_into wsX9_goesTo := goodIn_r _ [9, 10, 11, 12, 8, 13, 14, 23, 24, 25, 26, 27, 28, 29, 30, 31, 32, 33, 34, 35, 36, 37, 38, 39, 40, 41, 42, 43, 44, 45, 46, 47, 48, 49, 50, 51, 52] (by decide +kernel) (by decide +kernel)
set_option maxRecDepth 20000 in
theorem gX9_into_X9_goesTo : GoodIn wsX9_into (wsV RX9 117 RX9 yX9_goesTo wsX9_goesTo) := goodIn_app (goodIn_of _ (by decide +kernel)) ggX9_into_X9_goesTo
set_option maxRecDepth 20000 in
theorem ggX9_into_X9_put : GoodIn wsX9_into wsX9_put := goodIn_r _ [13, 14, 23, 24, 25, 26, 27, 28, 29, 30, 31, 32, 33, 34, 35, 36, 37, 38, 39, 40, 41, 42, 43, 44, 45, 46, 47, 48, 49, 50, 51, 52] (by decide +kernel) (by decide +kernel)
set_option maxRecDepth 20000 in
theorem gX9_into_X9_put : GoodIn wsX9_into (wsV RX9 114 RX9 yX9_put wsX9_put) := goodIn_app (goodIn_of _ (by decide +kernel)) ggX9_into_X9_put
set_option maxRecDepth 20000 in
theorem ggX9_into_X9_of : GoodIn wsX9_into wsX9_of := goodIn_r _ [18, 14, 23, 24, 25, 26, 27, 28, 29, 30, 31, 32, 33, 34, 35, 36, 37, 38, 39, 40, 41, 42, 43, 44, 45, 46, 47, 48, 49, 50, 51, 52] (by decide +kernel) (by decide +kernel)
set_option maxRecDepth 20000 in
theorem gX9_into_X9_of : GoodIn wsX9_into (wsV RX9 106 RX9 yX9_of wsX9_of) := goodIn_app (goodIn_of _ (by decide +kernel)) ggX9_into_X9_of
set_option maxRecDepth 20000 in
theorem ggX9_into_X9_add : GoodIn wsX9_into wsX9_add := goodIn_r _ [22, 14, 23, 24, 25, 26, 27, 28, 29, 30, 31, 32, 33, 34, 35, 36, 37, 38, 39, 40, 41, 42, 43, 44, 45, 46, 47, 48, 49, 50, 51, 52] (by decide +kernel) (by decide +kernel)
set_option maxRecDepth 20000 in
theorem gX9_into_X9_add : GoodIn wsX9_into (wsV RX9 110 RX9 yX9_add wsX9_add) := goodIn_app (goodIn_of _ (by decide +kernel)) ggX9_into_X9_add
theorem dX9_into_0 : decode cX9_into 0 = .ok (.aload_n 0, 1) := by decide +kernel
theorem dX9_into_1 : decode cX9_into 1 = .ok (.iload_n 1, 1) := by decide +kernel
theorem dX9_into_2 : decode cX9_into 2 = .ok (.iload_n 2, 1) := by decide +kernel
theorem dX9_into_3 : decode cX9_into 3 = .ok (.invokevirtual 117, 3) := by decide +kernel
theorem dX9_into_6 : decode cX9_into 6 = .ok (.aload_n 0, 1) := by decide +kernel
theorem dX9_into_7 : decode cX9_into 7 = .ok (.iconst 1, 1) := by decide +kernel
theorem dX9_into_8 : decode cX9_into 8 = .ok (.putfield 127, 3) := by decide +kernel
theorem dX9_into_11 : decode cX9_into 11 = .ok (.aload_n 0, 1) := by decide +kernel
theorem dX9_into_12 : decode cX9_into 12 = .ok (.dup, 1) := by decide +kernel
theorem dX9_into_13 : decode cX9_into 13 = .ok (.getfield 131, 3) := by decide +kernel
theorem dX9_into_16 : decode cX9_into 16 = .ok (.iconst 1, 1) := by decide +kernel
theorem dX9_into_17 : decode cX9_into 17 = .ok (.iadd, 1) := by decide +kernel
theorem dX9_into_18 : decode cX9_into 18 = .ok (.putfield 131, 3) := by decide +kernel
theorem dX9_into_21 : decode cX9_into 21 = .ok (.iload_n 2, 1) := by decide +kernel
theorem dX9_into_22 : decode cX9_into 22 = .ok (.iconst 3, 1) := by decide +kernel
theorem dX9_into_23 : decode cX9_into 23 = .ok (.if_icmp .ne 29, 3) := by decide +kernel
theorem dX9_into_26 : decode cX9_into 26 = .ok (.iconst 0, 1) := by decide +kernel
theorem dX9_into_27 : decode cX9_into 27 = .ok (.istore_n 3, 1) := by decide +kernel
theorem dX9_into_28 : decode cX9_into 28 = .ok (.iload_n 3, 1) := by decide +kernel
theorem dX9_into_29 : decode cX9_into 29 = .ok (.bipush 8, 2) := by decide +kernel
theorem dX9_into_31 : decode cX9_into 31 = .ok (.if_icmp .ge 21, 3) := by decide +kernel
theorem dX9_into_34 : decode cX9_into 34 = .ok (.aload_n 0, 1) := by decide +kernel
theorem dX9_into_35 : decode cX9_into 35 = .ok (.getfield 13, 3) := by decide +kernel
theorem dX9_into_38 : decode cX9_into 38 = .ok (.bipush 8, 2) := by decide +kernel
theorem dX9_into_40 : decode cX9_into 40 = .ok (.iload_n 1, 1) := by decide +kernel
theorem dX9_into_41 : decode cX9_into 41 = .ok (.imul, 1) := by decide +kernel
theorem dX9_into_42 : decode cX9_into 42 = .ok (.iload_n 3, 1) := by decide +kernel
theorem dX9_into_43 : decode cX9_into 43 = .ok (.iadd, 1) := by decide +kernel
theorem dX9_into_44 : decode cX9_into 44 = .ok (.iconst 0, 1) := by decide +kernel
theorem dX9_into_45 : decode cX9_into 45 = .ok (.iastore, 1) := by decide +kernel
theorem dX9_into_46 : decode cX9_into 46 = .ok (.iinc 3 1, 3) := by decide +kernel
theorem dX9_into_49 : decode cX9_into 49 = .ok (.goto (-21), 3) := by decide +kernel
theorem dX9_into_52 : decode cX9_into 52 = .ok (.iload_n 2, 1) := by decide +kernel
theorem dX9_into_53 : decode cX9_into 53 = .ok (.iconst 4, 1) := by decide +kernel
theorem dX9_into_54 : decode cX9_into 54 = .ok (.if_icmp .ne 27, 3) := by decide +kernel
theorem dX9_into_57 : decode cX9_into 57 = .ok (.iconst 0, 1) := by decide +kernel
theorem dX9_into_58 : decode cX9_into 58 = .ok (.istore_n 3, 1) := by decide +kernel
theorem dX9_into_59 : decode cX9_into 59 = .ok (.iload_n 3, 1) := by decide +kernel
theorem dX9_into_60 : decode cX9_into 60 = .ok (.iconst 4, 1) := by decide +kernel
theorem dX9_into_61 : decode cX9_into 61 = .ok (.if_icmp .ge 20, 3) := by decide +kernel
theorem dX9_into_64 : decode cX9_into 64 = .ok (.aload_n 0, 1) := by decide +kernel
theorem dX9_into_65 : decode cX9_into 65 = .ok (.getfield 16, 3) := by decide +kernel
theorem dX9_into_68 : decode cX9_into 68 = .ok (.iconst 4, 1) := by decide +kernel
theorem dX9_into_69 : decode cX9_into 69 = .ok (.iload_n 1, 1) := by decide +kernel
theorem dX9_into_70 : decode cX9_into 70 = .ok (.imul, 1) := by decide +kernel
theorem dX9_into_71 : decode cX9_into 71 = .ok (.iload_n 3, 1) := by decide +kernel
theorem dX9_into_72 : decode cX9_into 72 = .ok (.iadd, 1) := by decide +kernel
theorem dX9_into_73 : decode cX9_into 73 = .ok (.iconst 0, 1) := by decide +kernel
theorem dX9_into_74 : decode cX9_into 74 = .ok (.iastore, 1) := by decide +kernel
theorem dX9_into_75 : decode cX9_into 75 = .ok (.iinc 3 1, 3) := by decide +kernel
theorem dX9_into_78 : decode cX9_into 78 = .ok (.goto (-19), 3) := by decide +kernel
theorem dX9_into_81 : decode cX9_into 81 = .ok (.iload_n 2, 1) := by decide +kernel
theorem dX9_into_82 : decode cX9_into 82 = .ok (.bipush 7, 2) := by decide +kernel
theorem dX9_into_84 : decode cX9_into 84 = .ok (.if_icmp .ne 56, 3) := by decide +kernel
theorem dX9_into_87 : decode cX9_into 87 = .ok (.aload_n 0, 1) := by decide +kernel
theorem dX9_into_88 : decode cX9_into 88 = .ok (.iload_n 1, 1) := by decide +kernel
theorem dX9_into_89 : decode cX9_into 89 = .ok (.iconst 5, 1) := by decide +kernel
theorem dX9_into_90 : decode cX9_into 90 = .ok (.iconst 0, 1) := by decide +kernel
theorem dX9_into_91 : decode cX9_into 91 = .ok (.invokevirtual 114, 3) := by decide +kernel
theorem dX9_into_94 : decode cX9_into 94 = .ok (.aload_n 0, 1) := by decide +kernel
theorem dX9_into_95 : decode cX9_into 95 = .ok (.iload_n 1, 1) := by decide +kernel
theorem dX9_into_96 : decode cX9_into 96 = .ok (.bipush 10, 2) := by decide +kernel
theorem dX9_into_98 : decode cX9_into 98 = .ok (.iconst 0, 1) := by decide +kernel
theorem dX9_into_99 : decode cX9_into 99 = .ok (.invokevirtual 114, 3) := by decide +kernel
theorem dX9_into_102 : decode cX9_into 102 = .ok (.aload_n 0, 1) := by decide +kernel
theorem dX9_into_103 : decode cX9_into 103 = .ok (.iload_n 1, 1) := by decide +kernel
theorem dX9_into_104 : decode cX9_into 104 = .ok (.bipush 15, 2) := by decide +kernel
theorem dX9_into_106 : decode cX9_into 106 = .ok (.iconst 0, 1) := by decide +kernel
theorem dX9_into_107 : decode cX9_into 107 = .ok (.invokevirtual 114, 3) := by decide +kernel
theorem dX9_into_110 : decode cX9_into 110 = .ok (.aload_n 0, 1) := by decide +kernel
theorem dX9_into_111 : decode cX9_into 111 = .ok (.iload_n 1, 1) := by decide +kernel
theorem dX9_into_112 : decode cX9_into 112 = .ok (.bipush 16, 2) := by decide +kernel
theorem dX9_into_114 : decode cX9_into 114 = .ok (.iconst 0, 1) := by decide +kernel
theorem dX9_into_115 : decode cX9_into 115 = .ok (.invokevirtual 114, 3) := by decide +kernel
theorem dX9_into_118 : decode cX9_into 118 = .ok (.aload_n 0, 1) := by decide +kernel
theorem dX9_into_119 : decode cX9_into 119 = .ok (.iload_n 1, 1) := by decide +kernel
theorem dX9_into_120 : decode cX9_into 120 = .ok (.bipush 7, 2) := by decide +kernel
theorem dX9_into_122 : decode cX9_into 122 = .ok (.aload_n 0, 1) := by decide +kernel
theorem dX9_into_123 : decode cX9_into 123 = .ok (.iload_n 1, 1) := by decide +kernel
theorem dX9_into_124 : decode cX9_into 124 = .ok (.bipush 8, 2) := by decide +kernel
theorem dX9_into_126 : decode cX9_into 126 = .ok (.invokevirtual 106, 3) := by decide +kernel
theorem dX9_into_129 : decode cX9_into 129 = .ok (.invokevirtual 114, 3) := by decide +kernel
theorem dX9_into_132 : decode cX9_into 132 = .ok (.aload_n 0, 1) := by decide +kernel
theorem dX9_into_133 : decode cX9_into 133 = .ok (.iload_n 1, 1) := by decide +kernel
theorem dX9_into_134 : decode cX9_into 134 = .ok (.bipush 14, 2) := by decide +kernel
theorem dX9_into_136 : decode cX9_into 136 = .ok (.iconst 1, 1) := by decide +kernel
theorem dX9_into_137 : decode cX9_into 137 = .ok (.invokevirtual 110, 3) := by decide +kernel
theorem dX9_into_140 : decode cX9_into 140 = .ok (.return_, 1) := by decide +kernel
set_option maxRecDepth 20000 in
theorem ggX9_mayGiveUp_X9_of : GoodIn wsX9_mayGiveUp wsX9_of := goodIn_r _ [5, 6, 27, 28, 29, 30, 31, 32, 33, 34, 35, 36, 37, 38, 39, 40, 41, 42, 43, 44, 45, 46, 47, 48, 49, 50, 51, 52, 53, 54, 55, 56] (by decide +kernel) (by decide +kernel)
set_option maxRecDepth 20000 in
theorem gX9_mayGiveUp_X9_of : GoodIn wsX9_mayGiveUp (wsV RX9 106 RX9 yX9_of wsX9_of) := goodIn_app (goodIn_of _ (by decide +kernel)) ggX9_mayGiveUp_X9_of
set_option maxRecDepth 20000 in
theorem ggX9_mayGiveUp_X9_add : GoodIn wsX9_mayGiveUp wsX9_add := goodIn_r _ [10, 6, 27, 28, 29, 30, 31, 32, 33, 34, 35, 36, 37, 38, 39, 40, 41, 42, 43, 44, 45, 46, 47, 48, 49, 50, 51, 52, 53, 54, 55, 56] (by decide +kernel) (by decide +kernel)
set_option maxRecDepth 20000 in
theorem gX9_mayGiveUp_X9_add : GoodIn wsX9_mayGiveUp (wsV RX9 110 RX9 yX9_add wsX9_add) := goodIn_app (goodIn_of _ (by decide +kernel)) ggX9_mayGiveUp_X9_add
set_option maxRecDepth 20000 in
theorem ggX9_mayGiveUp_X9_into : GoodIn wsX9_mayGiveUp wsX9_into := goodIn_r _ [14, 15, 16, 17, 18, 19, 20, 21, 4, 22, 23, 24, 25, 26, 6, 1, 2, 3, 5, 7, 8, 9, 10, 27, 28, 29, 30, 31, 32, 33, 34, 35, 36, 37, 38, 39, 40, 41, 42, 43, 44, 45, 46, 47, 48, 49, 50, 51, 52, 53, 54, 55, 56] (by decide +kernel) (by decide +kernel)
set_option maxRecDepth 20000 in
theorem gX9_mayGiveUp_X9_into : GoodIn wsX9_mayGiveUp (wsV RX9 134 RX9 yX9_into wsX9_into) := goodIn_app (goodIn_of _ (by decide +kernel)) ggX9_mayGiveUp_X9_into
theorem dX9_mayGiveUp_0 : decode cX9_mayGiveUp 0 = .ok (.aload_n 0, 1) := by decide +kernel
theorem dX9_mayGiveUp_1 : decode cX9_mayGiveUp 1 = .ok (.iload_n 1, 1) := by decide +kernel
theorem dX9_mayGiveUp_2 : decode cX9_mayGiveUp 2 = .ok (.iconst 0, 1) := by decide +kernel
theorem dX9_mayGiveUp_3 : decode cX9_mayGiveUp 3 = .ok (.invokevirtual 106, 3) := by decide +kernel
theorem dX9_mayGiveUp_6 : decode cX9_mayGiveUp 6 = .ok (.istore_n 2, 1) := by decide +kernel
theorem dX9_mayGiveUp_7 : decode cX9_mayGiveUp 7 = .ok (.iload_n 2, 1) := by decide +kernel
theorem dX9_mayGiveUp_8 : decode cX9_mayGiveUp 8 = .ok (.bipush 7, 2) := by decide +kernel
theorem dX9_mayGiveUp_10 : decode cX9_mayGiveUp 10 = .ok (.if_icmp .ne 23, 3) := by decide +kernel
theorem dX9_mayGiveUp_13 : decode cX9_mayGiveUp 13 = .ok (.aload_n 0, 1) := by decide +kernel
theorem dX9_mayGiveUp_14 : decode cX9_mayGiveUp 14 = .ok (.iload_n 1, 1) := by decide +kernel
theorem dX9_mayGiveUp_15 : decode cX9_mayGiveUp 15 = .ok (.bipush 16, 2) := by decide +kernel
theorem dX9_mayGiveUp_17 : decode cX9_mayGiveUp 17 = .ok (.invokevirtual 106, 3) := by decide +kernel
theorem dX9_mayGiveUp_20 : decode cX9_mayGiveUp 20 = .ok (.bipush 16, 2) := by decide +kernel
theorem dX9_mayGiveUp_22 : decode cX9_mayGiveUp 22 = .ok (.if_icmp .lt 7, 3) := by decide +kernel
theorem dX9_mayGiveUp_25 : decode cX9_mayGiveUp 25 = .ok (.iconst 1, 1) := by decide +kernel
theorem dX9_mayGiveUp_26 : decode cX9_mayGiveUp 26 = .ok (.goto 27, 3) := by decide +kernel
theorem dX9_mayGiveUp_29 : decode cX9_mayGiveUp 29 = .ok (.iconst 0, 1) := by decide +kernel
theorem dX9_mayGiveUp_30 : decode cX9_mayGiveUp 30 = .ok (.goto 23, 3) := by decide +kernel
theorem dX9_mayGiveUp_33 : decode cX9_mayGiveUp 33 = .ok (.iload_n 2, 1) := by decide +kernel
theorem dX9_mayGiveUp_34 : decode cX9_mayGiveUp 34 = .ok (.ifCond .eq 18, 3) := by decide +kernel
theorem dX9_mayGiveUp_37 : decode cX9_mayGiveUp 37 = .ok (.aload_n 0, 1) := by decide +kernel
theorem dX9_mayGiveUp_38 : decode cX9_mayGiveUp 38 = .ok (.iload_n 1, 1) := by decide +kernel
theorem dX9_mayGiveUp_39 : decode cX9_mayGiveUp 39 = .ok (.iconst 1, 1) := by decide +kernel
theorem dX9_mayGiveUp_40 : decode cX9_mayGiveUp 40 = .ok (.invokevirtual 106, 3) := by decide +kernel
theorem dX9_mayGiveUp_43 : decode cX9_mayGiveUp 43 = .ok (.bipush 60, 2) := by decide +kernel
theorem dX9_mayGiveUp_45 : decode cX9_mayGiveUp 45 = .ok (.if_icmp .lt 7, 3) := by decide +kernel
theorem dX9_mayGiveUp_48 : decode cX9_mayGiveUp 48 = .ok (.iconst 1, 1) := by decide +kernel
theorem dX9_mayGiveUp_49 : decode cX9_mayGiveUp 49 = .ok (.goto 4, 3) := by decide +kernel
theorem dX9_mayGiveUp_52 : decode cX9_mayGiveUp 52 = .ok (.iconst 0, 1) := by decide +kernel
theorem dX9_mayGiveUp_53 : decode cX9_mayGiveUp 53 = .ok (.istore_n 3, 1) := by decide +kernel
theorem dX9_mayGiveUp_54 : decode cX9_mayGiveUp 54 = .ok (.iload_n 3, 1) := by decide +kernel
theorem dX9_mayGiveUp_55 : decode cX9_mayGiveUp 55 = .ok (.ifCond .eq 17, 3) := by decide +kernel
theorem dX9_mayGiveUp_58 : decode cX9_mayGiveUp 58 = .ok (.aload_n 0, 1) := by decide +kernel
theorem dX9_mayGiveUp_59 : decode cX9_mayGiveUp 59 = .ok (.iload_n 1, 1) := by decide +kernel
theorem dX9_mayGiveUp_60 : decode cX9_mayGiveUp 60 = .ok (.bipush 12, 2) := by decide +kernel
theorem dX9_mayGiveUp_62 : decode cX9_mayGiveUp 62 = .ok (.iconst 1, 1) := by decide +kernel
theorem dX9_mayGiveUp_63 : decode cX9_mayGiveUp 63 = .ok (.invokevirtual 110, 3) := by decide +kernel
theorem dX9_mayGiveUp_66 : decode cX9_mayGiveUp 66 = .ok (.aload_n 0, 1) := by decide +kernel
theorem dX9_mayGiveUp_67 : decode cX9_mayGiveUp 67 = .ok (.iload_n 1, 1) := by decide +kernel
theorem dX9_mayGiveUp_68 : decode cX9_mayGiveUp 68 = .ok (.iconst 0, 1) := by decide +kernel
theorem dX9_mayGiveUp_69 : decode cX9_mayGiveUp 69 = .ok (.invokevirtual 134, 3) := by decide +kernel
theorem dX9_mayGiveUp_72 : decode cX9_mayGiveUp 72 = .ok (.return_, 1) := by decide +kernel
set_option maxRecDepth 20000 in
theorem ggX9_note_X9_ear : GoodIn wsX9_note wsX9_ear := goodIn_r _ [7, 8, 9, 10, 11, 12, 13, 14, 15, 16, 17, 18, 19, 20, 21, 22, 23, 24, 25, 26, 27, 28, 29, 30, 31, 32, 33, 34, 35, 36, 37, 38] (by decide +kernel) (by decide +kernel)
set_option maxRecDepth 20000 in
theorem gX9_note_X9_ear : GoodIn wsX9_note (wsV RX9 137 RX9 yX9_ear wsX9_ear) := goodIn_app (goodIn_of _ (by decide +kernel)) ggX9_note_X9_ear
theorem dX9_note_0 : decode cX9_note 0 = .ok (.aload_n 0, 1) := by decide +kernel
theorem dX9_note_1 : decode cX9_note 1 = .ok (.getfield 13, 3) := by decide +kernel
theorem dX9_note_4 : decode cX9_note 4 = .ok (.bipush 8, 2) := by decide +kernel
theorem dX9_note_6 : decode cX9_note 6 = .ok (.iload_n 1, 1) := by decide +kernel
theorem dX9_note_7 : decode cX9_note 7 = .ok (.imul, 1) := by decide +kernel
theorem dX9_note_8 : decode cX9_note 8 = .ok (.aload_n 0, 1) := by decide +kernel
theorem dX9_note_9 : decode cX9_note 9 = .ok (.iload_n 1, 1) := by decide +kernel
theorem dX9_note_10 : decode cX9_note 10 = .ok (.iconst 1, 1) := by decide +kernel
theorem dX9_note_11 : decode cX9_note 11 = .ok (.invokevirtual 137, 3) := by decide +kernel
theorem dX9_note_14 : decode cX9_note 14 = .ok (.iadd, 1) := by decide +kernel
theorem dX9_note_15 : decode cX9_note 15 = .ok (.aload_n 0, 1) := by decide +kernel
theorem dX9_note_16 : decode cX9_note 16 = .ok (.getfield 31, 3) := by decide +kernel
theorem dX9_note_19 : decode cX9_note 19 = .ok (.bipush 8, 2) := by decide +kernel
theorem dX9_note_21 : decode cX9_note 21 = .ok (.iconst 1, 1) := by decide +kernel
theorem dX9_note_22 : decode cX9_note 22 = .ok (.iload_n 1, 1) := by decide +kernel
theorem dX9_note_23 : decode cX9_note 23 = .ok (.isub, 1) := by decide +kernel
theorem dX9_note_24 : decode cX9_note 24 = .ok (.imul, 1) := by decide +kernel
theorem dX9_note_25 : decode cX9_note 25 = .ok (.aload_n 0, 1) := by decide +kernel
theorem dX9_note_26 : decode cX9_note 26 = .ok (.iload_n 1, 1) := by decide +kernel
theorem dX9_note_27 : decode cX9_note 27 = .ok (.iconst 1, 1) := by decide +kernel
theorem dX9_note_28 : decode cX9_note 28 = .ok (.invokevirtual 137, 3) := by decide +kernel
theorem dX9_note_31 : decode cX9_note 31 = .ok (.iadd, 1) := by decide +kernel
theorem dX9_note_32 : decode cX9_note 32 = .ok (.iaload, 1) := by decide +kernel
theorem dX9_note_33 : decode cX9_note 33 = .ok (.iastore, 1) := by decide +kernel
theorem dX9_note_34 : decode cX9_note 34 = .ok (.return_, 1) := by decide +kernel
set_option maxRecDepth 20000 in
theorem ggX9_hearsOffer_X9_ear : GoodIn wsX9_hearsOffer wsX9_ear := goodIn_r _ [5, 6, 32, 33, 34, 35, 36, 37, 38, 39, 40, 41, 42, 43, 44, 45, 46, 47, 48, 49, 50, 51, 52, 53, 54, 55, 56, 57, 58, 59, 60, 61] (by decide +kernel) (by decide +kernel)
set_option maxRecDepth 20000 in
theorem gX9_hearsOffer_X9_ear : GoodIn wsX9_hearsOffer (wsV RX9 137 RX9 yX9_ear wsX9_ear) := goodIn_app (goodIn_of _ (by decide +kernel)) ggX9_hearsOffer_X9_ear
set_option maxRecDepth 20000 in
theorem ggX9_hearsOffer_X9_of : GoodIn wsX9_hearsOffer wsX9_of := goodIn_r _ [10, 11, 32, 33, 34, 35, 36, 37, 38, 39, 40, 41, 42, 43, 44, 45, 46, 47, 48, 49, 50, 51, 52, 53, 54, 55, 56, 57, 58, 59, 60, 61] (by decide +kernel) (by decide +kernel)
set_option maxRecDepth 20000 in
theorem gX9_hearsOffer_X9_of : GoodIn wsX9_hearsOffer (wsV RX9 106 RX9 yX9_of wsX9_of) := goodIn_app (goodIn_of _ (by decide +kernel)) ggX9_hearsOffer_X9_of
set_option maxRecDepth 20000 in
theorem ggX9_hearsOffer_X9_put : GoodIn wsX9_hearsOffer wsX9_put := goodIn_r _ [15, 11, 32, 33, 34, 35, 36, 37, 38, 39, 40, 41, 42, 43, 44, 45, 46, 47, 48, 49, 50, 51, 52, 53, 54, 55, 56, 57, 58, 59, 60, 61] (by decide +kernel) (by decide +kernel)
set_option maxRecDepth 20000 in
theorem gX9_hearsOffer_X9_put : GoodIn wsX9_hearsOffer (wsV RX9 114 RX9 yX9_put wsX9_put) := goodIn_app (goodIn_of _ (by decide +kernel)) ggX9_hearsOffer_X9_put
set_option maxRecDepth 20000 in
theorem ggX9_hearsOffer_X9_into : GoodIn wsX9_hearsOffer wsX9_into := goodIn_r _ [19, 20, 21, 22, 23, 24, 25, 26, 4, 27, 12, 13, 14, 15, 11, 7, 8, 9, 10, 28, 29, 30, 31, 32, 33, 34, 35, 36, 37, 38, 39, 40, 41, 42, 43, 44, 45, 46, 47, 48, 49, 50, 51, 52, 53, 54, 55, 56, 57, 58, 59, 60, 61] (by decide +kernel) (by decide +kernel)
set_option maxRecDepth 20000 in
theorem gX9_hearsOffer_X9_into : GoodIn wsX9_hearsOffer (wsV RX9 134 RX9 yX9_into wsX9_into) := goodIn_app (goodIn_of _ (by decide +kernel)) ggX9_hearsOffer_X9_into
theorem dX9_hearsOffer_0 : decode cX9_hearsOffer 0 = .ok (.aload_n 0, 1) := by decide +kernel
theorem dX9_hearsOffer_1 : decode cX9_hearsOffer 1 = .ok (.iload_n 1, 1) := by decide +kernel
theorem dX9_hearsOffer_2 : decode cX9_hearsOffer 2 = .ok (.iconst 0, 1) := by decide +kernel
theorem dX9_hearsOffer_3 : decode cX9_hearsOffer 3 = .ok (.invokevirtual 137, 3) := by decide +kernel
theorem dX9_hearsOffer_6 : decode cX9_hearsOffer 6 = .ok (.iconst 5, 1) := by decide +kernel
theorem dX9_hearsOffer_7 : decode cX9_hearsOffer 7 = .ok (.if_icmp .ne 36, 3) := by decide +kernel
theorem dX9_hearsOffer_10 : decode cX9_hearsOffer 10 = .ok (.aload_n 0, 1) := by decide +kernel
theorem dX9_hearsOffer_11 : decode cX9_hearsOffer 11 = .ok (.iload_n 1, 1) := by decide +kernel
theorem dX9_hearsOffer_12 : decode cX9_hearsOffer 12 = .ok (.iconst 1, 1) := by decide +kernel
theorem dX9_hearsOffer_13 : decode cX9_hearsOffer 13 = .ok (.invokevirtual 137, 3) := by decide +kernel
theorem dX9_hearsOffer_16 : decode cX9_hearsOffer 16 = .ok (.aload_n 0, 1) := by decide +kernel
theorem dX9_hearsOffer_17 : decode cX9_hearsOffer 17 = .ok (.iload_n 1, 1) := by decide +kernel
theorem dX9_hearsOffer_18 : decode cX9_hearsOffer 18 = .ok (.iconst 2, 1) := by decide +kernel
theorem dX9_hearsOffer_19 : decode cX9_hearsOffer 19 = .ok (.invokevirtual 106, 3) := by decide +kernel
theorem dX9_hearsOffer_22 : decode cX9_hearsOffer 22 = .ok (.if_icmp .le 21, 3) := by decide +kernel
theorem dX9_hearsOffer_25 : decode cX9_hearsOffer 25 = .ok (.aload_n 0, 1) := by decide +kernel
theorem dX9_hearsOffer_26 : decode cX9_hearsOffer 26 = .ok (.iload_n 1, 1) := by decide +kernel
theorem dX9_hearsOffer_27 : decode cX9_hearsOffer 27 = .ok (.iconst 2, 1) := by decide +kernel
theorem dX9_hearsOffer_28 : decode cX9_hearsOffer 28 = .ok (.aload_n 0, 1) := by decide +kernel
theorem dX9_hearsOffer_29 : decode cX9_hearsOffer 29 = .ok (.iload_n 1, 1) := by decide +kernel
theorem dX9_hearsOffer_30 : decode cX9_hearsOffer 30 = .ok (.iconst 1, 1) := by decide +kernel
theorem dX9_hearsOffer_31 : decode cX9_hearsOffer 31 = .ok (.invokevirtual 137, 3) := by decide +kernel
theorem dX9_hearsOffer_34 : decode cX9_hearsOffer 34 = .ok (.invokevirtual 114, 3) := by decide +kernel
theorem dX9_hearsOffer_37 : decode cX9_hearsOffer 37 = .ok (.aload_n 0, 1) := by decide +kernel
theorem dX9_hearsOffer_38 : decode cX9_hearsOffer 38 = .ok (.iload_n 1, 1) := by decide +kernel
theorem dX9_hearsOffer_39 : decode cX9_hearsOffer 39 = .ok (.iconst 5, 1) := by decide +kernel
theorem dX9_hearsOffer_40 : decode cX9_hearsOffer 40 = .ok (.invokevirtual 134, 3) := by decide +kernel
theorem dX9_hearsOffer_43 : decode cX9_hearsOffer 43 = .ok (.return_, 1) := by decide +kernel
set_option maxRecDepth 20000 in
theorem ggX9_agrees_X9_put : GoodIn wsX9_agrees wsX9_put := goodIn_r _ [5, 6, 27, 28, 29, 30, 31, 32, 33, 34, 35, 36, 37, 38, 39, 40, 41, 42, 43, 44, 45, 46, 47, 48, 49, 50, 51, 52, 53, 54, 55, 56] (by decide +kernel) (by decide +kernel)
set_option maxRecDepth 20000 in
theorem gX9_agrees_X9_put : GoodIn wsX9_agrees (wsV RX9 114 RX9 yX9_put wsX9_put) := goodIn_app (goodIn_of _ (by decide +kernel)) ggX9_agrees_X9_put
set_option maxRecDepth 20000 in
theorem ggX9_agrees_X9_into : GoodIn wsX9_agrees wsX9_into := goodIn_r _ [10, 11, 12, 13, 14, 15, 16, 17, 4, 18, 1, 2, 3, 5, 6, 19, 20, 21, 22, 23, 24, 25, 26, 27, 28, 29, 30, 31, 32, 33, 34, 35, 36, 37, 38, 39, 40, 41, 42, 43, 44, 45, 46, 47, 48, 49, 50, 51, 52, 53, 54, 55, 56] (by decide +kernel) (by decide +kernel)
set_option maxRecDepth 20000 in
theorem gX9_agrees_X9_into : GoodIn wsX9_agrees (wsV RX9 134 RX9 yX9_into wsX9_into) := goodIn_app (goodIn_of _ (by decide +kernel)) ggX9_agrees_X9_into
theorem dX9_agrees_0 : decode cX9_agrees 0 = .ok (.aload_n 0, 1) := by decide +kernel
theorem dX9_agrees_1 : decode cX9_agrees 1 = .ok (.iload_n 1, 1) := by decide +kernel
theorem dX9_agrees_2 : decode cX9_agrees 2 = .ok (.iconst 4, 1) := by decide +kernel
theorem dX9_agrees_3 : decode cX9_agrees 3 = .ok (.iload_n 2, 1) := by decide +kernel
theorem dX9_agrees_4 : decode cX9_agrees 4 = .ok (.invokevirtual 114, 3) := by decide +kernel
theorem dX9_agrees_7 : decode cX9_agrees 7 = .ok (.aload_n 0, 1) := by decide +kernel
theorem dX9_agrees_8 : decode cX9_agrees 8 = .ok (.iload_n 1, 1) := by decide +kernel
theorem dX9_agrees_9 : decode cX9_agrees 9 = .ok (.iload_n 2, 1) := by decide +kernel
theorem dX9_agrees_10 : decode cX9_agrees 10 = .ok (.ifCond .ne 7, 3) := by decide +kernel
theorem dX9_agrees_13 : decode cX9_agrees 13 = .ok (.iconst 0, 1) := by decide +kernel
theorem dX9_agrees_14 : decode cX9_agrees 14 = .ok (.goto 5, 3) := by decide +kernel
theorem dX9_agrees_17 : decode cX9_agrees 17 = .ok (.bipush 6, 2) := by decide +kernel
theorem dX9_agrees_19 : decode cX9_agrees 19 = .ok (.invokevirtual 134, 3) := by decide +kernel
theorem dX9_agrees_22 : decode cX9_agrees 22 = .ok (.return_, 1) := by decide +kernel
set_option maxRecDepth 20000 in
theorem ggX9_bargains_X9_ear : GoodIn wsX9_bargains wsX9_ear := goodIn_r _ [5, 6, 40, 41, 42, 43, 44, 45, 46, 47, 48, 49, 50, 51, 52, 53, 54, 55, 56, 57, 58, 59, 60, 61, 62, 63, 64, 65, 66, 67, 68, 69] (by decide +kernel) (by decide +kernel)
set_option maxRecDepth 20000 in
theorem gX9_bargains_X9_ear : GoodIn wsX9_bargains (wsV RX9 137 RX9 yX9_ear wsX9_ear) := goodIn_app (goodIn_of _ (by decide +kernel)) ggX9_bargains_X9_ear
set_option maxRecDepth 20000 in
theorem ggX9_bargains_X9_of : GoodIn wsX9_bargains wsX9_of := goodIn_r _ [10, 11, 40, 41, 42, 43, 44, 45, 46, 47, 48, 49, 50, 51, 52, 53, 54, 55, 56, 57, 58, 59, 60, 61, 62, 63, 64, 65, 66, 67, 68, 69] (by decide +kernel) (by decide +kernel)
set_option maxRecDepth 20000 in
theorem gX9_bargains_X9_of : GoodIn wsX9_bargains (wsV RX9 106 RX9 yX9_of wsX9_of) := goodIn_app (goodIn_of _ (by decide +kernel)) ggX9_bargains_X9_of
set_option maxRecDepth 20000 in
theorem ggX9_bargains_X9_agrees : GoodIn wsX9_bargains wsX9_agrees := goodIn_r _ [15, 16, 17, 18, 4, 19, 11, 20, 21, 22, 23, 24, 25, 26, 27, 28, 29, 30, 31, 7, 8, 9, 10, 32, 33, 34, 35, 40, 41, 42, 43, 44, 45, 46, 47, 48, 49, 50, 51, 52, 53, 54, 55, 56, 57, 58, 59, 60, 61, 62, 63, 64, 65, 66, 67, 68, 69] (by decide +kernel) (by decide +kernel)
set_option maxRecDepth 20000 in
theorem gX9_bargains_X9_agrees : GoodIn wsX9_bargains (wsV RX9 140 RX9 yX9_agrees wsX9_agrees) := goodIn_app (goodIn_of _ (by decide +kernel)) ggX9_bargains_X9_agrees
set_option maxRecDepth 20000 in
theorem ggX9_bargains_X9_hearsOffer : GoodIn wsX9_bargains wsX9_hearsOffer := goodIn_r _ [39, 1, 2, 3, 4, 5, 6, 7, 8, 9, 10, 11, 16, 17, 18, 19, 20, 21, 22, 23, 24, 25, 26, 27, 28, 29, 30, 31, 32, 33, 34, 35, 40, 41, 42, 43, 44, 45, 46, 47, 48, 49, 50, 51, 52, 53, 54, 55, 56, 57, 58, 59, 60, 61, 62, 63, 64, 65, 66, 67, 68, 69] (by decide +kernel) (by decide +kernel)
set_option maxRecDepth 20000 in
theorem gX9_bargains_X9_hearsOffer : GoodIn wsX9_bargains (wsV RX9 143 RX9 yX9_hearsOffer wsX9_hearsOffer) := goodIn_app (goodIn_of _ (by decide +kernel)) ggX9_bargains_X9_hearsOffer
theorem dX9_bargains_0 : decode cX9_bargains 0 = .ok (.aload_n 0, 1) := by decide +kernel
theorem dX9_bargains_1 : decode cX9_bargains 1 = .ok (.iload_n 1, 1) := by decide +kernel
theorem dX9_bargains_2 : decode cX9_bargains 2 = .ok (.iconst 1, 1) := by decide +kernel
theorem dX9_bargains_3 : decode cX9_bargains 3 = .ok (.invokevirtual 137, 3) := by decide +kernel
theorem dX9_bargains_6 : decode cX9_bargains 6 = .ok (.aload_n 0, 1) := by decide +kernel
theorem dX9_bargains_7 : decode cX9_bargains 7 = .ok (.iload_n 1, 1) := by decide +kernel
theorem dX9_bargains_8 : decode cX9_bargains 8 = .ok (.iconst 2, 1) := by decide +kernel
theorem dX9_bargains_9 : decode cX9_bargains 9 = .ok (.invokevirtual 106, 3) := by decide +kernel
theorem dX9_bargains_12 : decode cX9_bargains 12 = .ok (.if_icmp .ne 7, 3) := by decide +kernel
theorem dX9_bargains_15 : decode cX9_bargains 15 = .ok (.iconst 1, 1) := by decide +kernel
theorem dX9_bargains_16 : decode cX9_bargains 16 = .ok (.goto 4, 3) := by decide +kernel
theorem dX9_bargains_19 : decode cX9_bargains 19 = .ok (.iconst 0, 1) := by decide +kernel
theorem dX9_bargains_20 : decode cX9_bargains 20 = .ok (.istore_n 2, 1) := by decide +kernel
theorem dX9_bargains_21 : decode cX9_bargains 21 = .ok (.aload_n 0, 1) := by decide +kernel
theorem dX9_bargains_22 : decode cX9_bargains 22 = .ok (.iload_n 1, 1) := by decide +kernel
theorem dX9_bargains_23 : decode cX9_bargains 23 = .ok (.iconst 0, 1) := by decide +kernel
theorem dX9_bargains_24 : decode cX9_bargains 24 = .ok (.invokevirtual 137, 3) := by decide +kernel
theorem dX9_bargains_27 : decode cX9_bargains 27 = .ok (.iconst 5, 1) := by decide +kernel
theorem dX9_bargains_28 : decode cX9_bargains 28 = .ok (.if_icmp .ne 45, 3) := by decide +kernel
theorem dX9_bargains_31 : decode cX9_bargains 31 = .ok (.iload_n 2, 1) := by decide +kernel
theorem dX9_bargains_32 : decode cX9_bargains 32 = .ok (.ifCond .eq 41, 3) := by decide +kernel
theorem dX9_bargains_35 : decode cX9_bargains 35 = .ok (.aload_n 0, 1) := by decide +kernel
theorem dX9_bargains_36 : decode cX9_bargains 36 = .ok (.iload_n 1, 1) := by decide +kernel
theorem dX9_bargains_37 : decode cX9_bargains 37 = .ok (.aload_n 0, 1) := by decide +kernel
theorem dX9_bargains_38 : decode cX9_bargains 38 = .ok (.iload_n 1, 1) := by decide +kernel
theorem dX9_bargains_39 : decode cX9_bargains 39 = .ok (.iconst 2, 1) := by decide +kernel
theorem dX9_bargains_40 : decode cX9_bargains 40 = .ok (.invokevirtual 137, 3) := by decide +kernel
theorem dX9_bargains_43 : decode cX9_bargains 43 = .ok (.aload_n 0, 1) := by decide +kernel
theorem dX9_bargains_44 : decode cX9_bargains 44 = .ok (.iload_n 1, 1) := by decide +kernel
theorem dX9_bargains_45 : decode cX9_bargains 45 = .ok (.iconst 3, 1) := by decide +kernel
theorem dX9_bargains_46 : decode cX9_bargains 46 = .ok (.invokevirtual 106, 3) := by decide +kernel
theorem dX9_bargains_49 : decode cX9_bargains 49 = .ok (.if_icmp .ge 12, 3) := by decide +kernel
theorem dX9_bargains_52 : decode cX9_bargains 52 = .ok (.aload_n 0, 1) := by decide +kernel
theorem dX9_bargains_53 : decode cX9_bargains 53 = .ok (.iload_n 1, 1) := by decide +kernel
theorem dX9_bargains_54 : decode cX9_bargains 54 = .ok (.iconst 2, 1) := by decide +kernel
theorem dX9_bargains_55 : decode cX9_bargains 55 = .ok (.invokevirtual 137, 3) := by decide +kernel
theorem dX9_bargains_58 : decode cX9_bargains 58 = .ok (.goto 9, 3) := by decide +kernel
theorem dX9_bargains_61 : decode cX9_bargains 61 = .ok (.aload_n 0, 1) := by decide +kernel
theorem dX9_bargains_62 : decode cX9_bargains 62 = .ok (.iload_n 1, 1) := by decide +kernel
theorem dX9_bargains_63 : decode cX9_bargains 63 = .ok (.iconst 3, 1) := by decide +kernel
theorem dX9_bargains_64 : decode cX9_bargains 64 = .ok (.invokevirtual 106, 3) := by decide +kernel
theorem dX9_bargains_67 : decode cX9_bargains 67 = .ok (.invokevirtual 140, 3) := by decide +kernel
theorem dX9_bargains_70 : decode cX9_bargains 70 = .ok (.goto 37, 3) := by decide +kernel
theorem dX9_bargains_73 : decode cX9_bargains 73 = .ok (.aload_n 0, 1) := by decide +kernel
theorem dX9_bargains_74 : decode cX9_bargains 74 = .ok (.iload_n 1, 1) := by decide +kernel
theorem dX9_bargains_75 : decode cX9_bargains 75 = .ok (.iconst 0, 1) := by decide +kernel
theorem dX9_bargains_76 : decode cX9_bargains 76 = .ok (.invokevirtual 137, 3) := by decide +kernel
theorem dX9_bargains_79 : decode cX9_bargains 79 = .ok (.bipush 6, 2) := by decide +kernel
theorem dX9_bargains_81 : decode cX9_bargains 81 = .ok (.if_icmp .ne 21, 3) := by decide +kernel
theorem dX9_bargains_84 : decode cX9_bargains 84 = .ok (.iload_n 2, 1) := by decide +kernel
theorem dX9_bargains_85 : decode cX9_bargains 85 = .ok (.ifCond .eq 17, 3) := by decide +kernel
theorem dX9_bargains_88 : decode cX9_bargains 88 = .ok (.aload_n 0, 1) := by decide +kernel
theorem dX9_bargains_89 : decode cX9_bargains 89 = .ok (.iload_n 1, 1) := by decide +kernel
theorem dX9_bargains_90 : decode cX9_bargains 90 = .ok (.aload_n 0, 1) := by decide +kernel
theorem dX9_bargains_91 : decode cX9_bargains 91 = .ok (.iload_n 1, 1) := by decide +kernel
theorem dX9_bargains_92 : decode cX9_bargains 92 = .ok (.iconst 2, 1) := by decide +kernel
theorem dX9_bargains_93 : decode cX9_bargains 93 = .ok (.invokevirtual 137, 3) := by decide +kernel
theorem dX9_bargains_96 : decode cX9_bargains 96 = .ok (.invokevirtual 140, 3) := by decide +kernel
theorem dX9_bargains_99 : decode cX9_bargains 99 = .ok (.goto 8, 3) := by decide +kernel
theorem dX9_bargains_102 : decode cX9_bargains 102 = .ok (.aload_n 0, 1) := by decide +kernel
theorem dX9_bargains_103 : decode cX9_bargains 103 = .ok (.iload_n 1, 1) := by decide +kernel
theorem dX9_bargains_104 : decode cX9_bargains 104 = .ok (.invokevirtual 143, 3) := by decide +kernel
theorem dX9_bargains_107 : decode cX9_bargains 107 = .ok (.return_, 1) := by decide +kernel
set_option maxRecDepth 20000 in
theorem ggX9_takesFrame_X9_ear : GoodIn wsX9_takesFrame wsX9_ear := goodIn_r _ [8, 9, 23, 24, 25, 26, 27, 28, 29, 30, 31, 32, 33, 34, 35, 36, 37, 38, 39, 40, 41, 42, 43, 44, 45, 46, 47, 48, 49, 50, 51, 52] (by decide +kernel) (by decide +kernel)
set_option maxRecDepth 20000 in
theorem gX9_takesFrame_X9_ear : GoodIn wsX9_takesFrame (wsV RX9 137 RX9 yX9_ear wsX9_ear) := goodIn_app (goodIn_of _ (by decide +kernel)) ggX9_takesFrame_X9_ear
set_option maxRecDepth 20000 in
theorem ggX9_takesFrame_X9_of : GoodIn wsX9_takesFrame wsX9_of := goodIn_r _ [13, 14, 23, 24, 25, 26, 27, 28, 29, 30, 31, 32, 33, 34, 35, 36, 37, 38, 39, 40, 41, 42, 43, 44, 45, 46, 47, 48, 49, 50, 51, 52] (by decide +kernel) (by decide +kernel)
set_option maxRecDepth 20000 in
theorem gX9_takesFrame_X9_of : GoodIn wsX9_takesFrame (wsV RX9 106 RX9 yX9_of wsX9_of) := goodIn_app (goodIn_of _ (by decide +kernel)) ggX9_takesFrame_X9_of
set_option maxRecDepth 20000 in
theorem ggX9_takesFrame_X9_add : GoodIn wsX9_takesFrame wsX9_add := goodIn_r _ [18, 14, 23, 24, 25, 26, 27, 28, 29, 30, 31, 32, 33, 34, 35, 36, 37, 38, 39, 40, 41, 42, 43, 44, 45, 46, 47, 48, 49, 50, 51, 52] (by decide +kernel) (by decide +kernel)
set_option maxRecDepth 20000 in
theorem gX9_takesFrame_X9_add : GoodIn wsX9_takesFrame (wsV RX9 110 RX9 yX9_add wsX9_add) := goodIn_app (goodIn_of _ (by decide +kernel)) ggX9_takesFrame_X9_add
set_option maxRecDepth 20000 in
theorem ggX9_takesFrame_X9_put : GoodIn wsX9_takesFrame wsX9_put := goodIn_r _ [22, 14, 23, 24, 25, 26, 27, 28, 29, 30, 31, 32, 33, 34, 35, 36, 37, 38, 39, 40, 41, 42, 43, 44, 45, 46, 47, 48, 49, 50, 51, 52] (by decide +kernel) (by decide +kernel)
set_option maxRecDepth 20000 in
theorem gX9_takesFrame_X9_put : GoodIn wsX9_takesFrame (wsV RX9 114 RX9 yX9_put wsX9_put) := goodIn_app (goodIn_of _ (by decide +kernel)) ggX9_takesFrame_X9_put
theorem dX9_takesFrame_0 : decode cX9_takesFrame 0 = .ok (.aload_n 0, 1) := by decide +kernel
theorem dX9_takesFrame_1 : decode cX9_takesFrame 1 = .ok (.iload_n 1, 1) := by decide +kernel
theorem dX9_takesFrame_2 : decode cX9_takesFrame 2 = .ok (.iconst 3, 1) := by decide +kernel
theorem dX9_takesFrame_3 : decode cX9_takesFrame 3 = .ok (.invokevirtual 137, 3) := by decide +kernel
theorem dX9_takesFrame_6 : decode cX9_takesFrame 6 = .ok (.istore_n 2, 1) := by decide +kernel
theorem dX9_takesFrame_7 : decode cX9_takesFrame 7 = .ok (.aload_n 0, 1) := by decide +kernel
theorem dX9_takesFrame_8 : decode cX9_takesFrame 8 = .ok (.iload_n 1, 1) := by decide +kernel
theorem dX9_takesFrame_9 : decode cX9_takesFrame 9 = .ok (.iconst 2, 1) := by decide +kernel
theorem dX9_takesFrame_10 : decode cX9_takesFrame 10 = .ok (.invokevirtual 137, 3) := by decide +kernel
theorem dX9_takesFrame_13 : decode cX9_takesFrame 13 = .ok (.aload_n 0, 1) := by decide +kernel
theorem dX9_takesFrame_14 : decode cX9_takesFrame 14 = .ok (.iload_n 1, 1) := by decide +kernel
theorem dX9_takesFrame_15 : decode cX9_takesFrame 15 = .ok (.bipush 9, 2) := by decide +kernel
theorem dX9_takesFrame_17 : decode cX9_takesFrame 17 = .ok (.invokevirtual 106, 3) := by decide +kernel
theorem dX9_takesFrame_20 : decode cX9_takesFrame 20 = .ok (.if_icmp .ne 54, 3) := by decide +kernel
theorem dX9_takesFrame_23 : decode cX9_takesFrame 23 = .ok (.iconst 0, 1) := by decide +kernel
theorem dX9_takesFrame_24 : decode cX9_takesFrame 24 = .ok (.istore_n 3, 1) := by decide +kernel
theorem dX9_takesFrame_25 : decode cX9_takesFrame 25 = .ok (.iload_n 3, 1) := by decide +kernel
theorem dX9_takesFrame_26 : decode cX9_takesFrame 26 = .ok (.iload_n 2, 1) := by decide +kernel
theorem dX9_takesFrame_27 : decode cX9_takesFrame 27 = .ok (.if_icmp .ge 39, 3) := by decide +kernel
theorem dX9_takesFrame_30 : decode cX9_takesFrame 30 = .ok (.aload_n 0, 1) := by decide +kernel
theorem dX9_takesFrame_31 : decode cX9_takesFrame 31 = .ok (.getfield 25, 3) := by decide +kernel
theorem dX9_takesFrame_34 : decode cX9_takesFrame 34 = .ok (.sipush 200, 3) := by decide +kernel
theorem dX9_takesFrame_37 : decode cX9_takesFrame 37 = .ok (.iload_n 1, 1) := by decide +kernel
theorem dX9_takesFrame_38 : decode cX9_takesFrame 38 = .ok (.imul, 1) := by decide +kernel
theorem dX9_takesFrame_39 : decode cX9_takesFrame 39 = .ok (.aload_n 0, 1) := by decide +kernel
theorem dX9_takesFrame_40 : decode cX9_takesFrame 40 = .ok (.iload_n 1, 1) := by decide +kernel
theorem dX9_takesFrame_41 : decode cX9_takesFrame 41 = .ok (.bipush 9, 2) := by decide +kernel
theorem dX9_takesFrame_43 : decode cX9_takesFrame 43 = .ok (.invokevirtual 106, 3) := by decide +kernel
theorem dX9_takesFrame_46 : decode cX9_takesFrame 46 = .ok (.iadd, 1) := by decide +kernel
theorem dX9_takesFrame_47 : decode cX9_takesFrame 47 = .ok (.iload_n 3, 1) := by decide +kernel
theorem dX9_takesFrame_48 : decode cX9_takesFrame 48 = .ok (.iadd, 1) := by decide +kernel
theorem dX9_takesFrame_49 : decode cX9_takesFrame 49 = .ok (.aload_n 0, 1) := by decide +kernel
theorem dX9_takesFrame_50 : decode cX9_takesFrame 50 = .ok (.getfield 62, 3) := by decide +kernel
theorem dX9_takesFrame_53 : decode cX9_takesFrame 53 = .ok (.iconst 3, 1) := by decide +kernel
theorem dX9_takesFrame_54 : decode cX9_takesFrame 54 = .ok (.iload_n 1, 1) := by decide +kernel
theorem dX9_takesFrame_55 : decode cX9_takesFrame 55 = .ok (.imul, 1) := by decide +kernel
theorem dX9_takesFrame_56 : decode cX9_takesFrame 56 = .ok (.iload_n 3, 1) := by decide +kernel
theorem dX9_takesFrame_57 : decode cX9_takesFrame 57 = .ok (.iadd, 1) := by decide +kernel
theorem dX9_takesFrame_58 : decode cX9_takesFrame 58 = .ok (.iaload, 1) := by decide +kernel
theorem dX9_takesFrame_59 : decode cX9_takesFrame 59 = .ok (.iastore, 1) := by decide +kernel
theorem dX9_takesFrame_60 : decode cX9_takesFrame 60 = .ok (.iinc 3 1, 3) := by decide +kernel
theorem dX9_takesFrame_63 : decode cX9_takesFrame 63 = .ok (.goto (-38), 3) := by decide +kernel
theorem dX9_takesFrame_66 : decode cX9_takesFrame 66 = .ok (.aload_n 0, 1) := by decide +kernel
theorem dX9_takesFrame_67 : decode cX9_takesFrame 67 = .ok (.iload_n 1, 1) := by decide +kernel
theorem dX9_takesFrame_68 : decode cX9_takesFrame 68 = .ok (.bipush 9, 2) := by decide +kernel
theorem dX9_takesFrame_70 : decode cX9_takesFrame 70 = .ok (.iload_n 2, 1) := by decide +kernel
theorem dX9_takesFrame_71 : decode cX9_takesFrame 71 = .ok (.invokevirtual 110, 3) := by decide +kernel
theorem dX9_takesFrame_74 : decode cX9_takesFrame 74 = .ok (.aload_n 0, 1) := by decide +kernel
theorem dX9_takesFrame_75 : decode cX9_takesFrame 75 = .ok (.iload_n 1, 1) := by decide +kernel
theorem dX9_takesFrame_76 : decode cX9_takesFrame 76 = .ok (.iconst 4, 1) := by decide +kernel
theorem dX9_takesFrame_77 : decode cX9_takesFrame 77 = .ok (.invokevirtual 137, 3) := by decide +kernel
theorem dX9_takesFrame_80 : decode cX9_takesFrame 80 = .ok (.aload_n 0, 1) := by decide +kernel
theorem dX9_takesFrame_81 : decode cX9_takesFrame 81 = .ok (.iload_n 1, 1) := by decide +kernel
theorem dX9_takesFrame_82 : decode cX9_takesFrame 82 = .ok (.bipush 8, 2) := by decide +kernel
theorem dX9_takesFrame_84 : decode cX9_takesFrame 84 = .ok (.invokevirtual 106, 3) := by decide +kernel
theorem dX9_takesFrame_87 : decode cX9_takesFrame 87 = .ok (.if_icmp .le 21, 3) := by decide +kernel
theorem dX9_takesFrame_90 : decode cX9_takesFrame 90 = .ok (.aload_n 0, 1) := by decide +kernel
theorem dX9_takesFrame_91 : decode cX9_takesFrame 91 = .ok (.iload_n 1, 1) := by decide +kernel
theorem dX9_takesFrame_92 : decode cX9_takesFrame 92 = .ok (.bipush 8, 2) := by decide +kernel
theorem dX9_takesFrame_94 : decode cX9_takesFrame 94 = .ok (.aload_n 0, 1) := by decide +kernel
theorem dX9_takesFrame_95 : decode cX9_takesFrame 95 = .ok (.iload_n 1, 1) := by decide +kernel
theorem dX9_takesFrame_96 : decode cX9_takesFrame 96 = .ok (.iconst 4, 1) := by decide +kernel
theorem dX9_takesFrame_97 : decode cX9_takesFrame 97 = .ok (.invokevirtual 137, 3) := by decide +kernel
theorem dX9_takesFrame_100 : decode cX9_takesFrame 100 = .ok (.invokevirtual 114, 3) := by decide +kernel
theorem dX9_takesFrame_103 : decode cX9_takesFrame 103 = .ok (.aload_n 0, 1) := by decide +kernel
theorem dX9_takesFrame_104 : decode cX9_takesFrame 104 = .ok (.iconst 1, 1) := by decide +kernel
theorem dX9_takesFrame_105 : decode cX9_takesFrame 105 = .ok (.putfield 147, 3) := by decide +kernel
theorem dX9_takesFrame_108 : decode cX9_takesFrame 108 = .ok (.return_, 1) := by decide +kernel
set_option maxRecDepth 20000 in
theorem ggX9_hearsInData_X9_of : GoodIn wsX9_hearsInData wsX9_of := goodIn_r _ [7, 8, 43, 44, 45, 46, 47, 48, 49, 50, 51, 52, 53, 54, 55, 56, 57, 58, 59, 60, 61, 62, 63, 64, 65, 66, 67, 68, 69, 70, 71, 72] (by decide +kernel) (by decide +kernel)
set_option maxRecDepth 20000 in
theorem gX9_hearsInData_X9_of : GoodIn wsX9_hearsInData (wsV RX9 106 RX9 yX9_of wsX9_of) := goodIn_app (goodIn_of _ (by decide +kernel)) ggX9_hearsInData_X9_of
set_option maxRecDepth 20000 in
theorem ggX9_hearsInData_X9_ear : GoodIn wsX9_hearsInData wsX9_ear := goodIn_r _ [12, 13, 43, 44, 45, 46, 47, 48, 49, 50, 51, 52, 53, 54, 55, 56, 57, 58, 59, 60, 61, 62, 63, 64, 65, 66, 67, 68, 69, 70, 71, 72] (by decide +kernel) (by decide +kernel)
set_option maxRecDepth 20000 in
theorem gX9_hearsInData_X9_ear : GoodIn wsX9_hearsInData (wsV RX9 137 RX9 yX9_ear wsX9_ear) := goodIn_app (goodIn_of _ (by decide +kernel)) ggX9_hearsInData_X9_ear
set_option maxRecDepth 20000 in
theorem ggX9_hearsInData_X9_put : GoodIn wsX9_hearsInData wsX9_put := goodIn_r _ [17, 8, 43, 44, 45, 46, 47, 48, 49, 50, 51, 52, 53, 54, 55, 56, 57, 58, 59, 60, 61, 62, 63, 64, 65, 66, 67, 68, 69, 70, 71, 72] (by decide +kernel) (by decide +kernel)
set_option maxRecDepth 20000 in
theorem gX9_hearsInData_X9_put : GoodIn wsX9_hearsInData (wsV RX9 114 RX9 yX9_put wsX9_put) := goodIn_app (goodIn_of _ (by decide +kernel)) ggX9_hearsInData_X9_put
set_option maxRecDepth 20000 in
theorem ggX9_hearsInData_X9_hearsOffer : GoodIn wsX9_hearsInData wsX9_hearsOffer := goodIn_r _ [21, 9, 10, 11, 6, 12, 13, 3, 4, 5, 7, 8, 14, 15, 16, 17, 22, 23, 24, 25, 2, 26, 27, 28, 29, 30, 31, 32, 33, 34, 35, 36, 43, 44, 45, 46, 47, 48, 49, 50, 51, 52, 53, 54, 55, 56, 57, 58, 59, 60, 61, 62, 63, 64, 65, 66, 67, 68, 69, 70, 71, 72] (by decide +kernel) (by decide +kernel)
set_option maxRecDepth 20000 in
theorem gX9_hearsInData_X9_hearsOffer : GoodIn wsX9_hearsInData (wsV RX9 143 RX9 yX9_hearsOffer wsX9_hearsOffer) := goodIn_app (goodIn_of _ (by decide +kernel)) ggX9_hearsInData_X9_hearsOffer
set_option maxRecDepth 20000 in
theorem ggX9_hearsInData_X9_takesFrame : GoodIn wsX9_hearsInData wsX9_takesFrame := goodIn_r _ [40, 41, 42, 1, 9, 10, 11, 6, 12, 13, 3, 4, 5, 7, 8, 33, 34, 35, 36, 14, 15, 16, 17, 43, 44, 45, 46, 47, 48, 49, 50, 51, 52, 53, 54, 55, 56, 57, 58, 59, 60, 61, 62, 63, 64, 65, 66, 67, 68, 69, 70, 71, 72] (by decide +kernel) (by decide +kernel)
set_option maxRecDepth 20000 in
theorem gX9_hearsInData_X9_takesFrame : GoodIn wsX9_hearsInData (wsV RX9 150 RX9 yX9_takesFrame wsX9_takesFrame) := goodIn_app (goodIn_of _ (by decide +kernel)) ggX9_hearsInData_X9_takesFrame
theorem dX9_hearsInData_0 : decode cX9_hearsInData 0 = .ok (.aload_n 0, 1) := by decide +kernel
theorem dX9_hearsInData_1 : decode cX9_hearsInData 1 = .ok (.iload_n 1, 1) := by decide +kernel
theorem dX9_hearsInData_2 : decode cX9_hearsInData 2 = .ok (.bipush 15, 2) := by decide +kernel
theorem dX9_hearsInData_4 : decode cX9_hearsInData 4 = .ok (.iconst 2, 1) := by decide +kernel
theorem dX9_hearsInData_5 : decode cX9_hearsInData 5 = .ok (.aload_n 0, 1) := by decide +kernel
theorem dX9_hearsInData_6 : decode cX9_hearsInData 6 = .ok (.iload_n 1, 1) := by decide +kernel
theorem dX9_hearsInData_7 : decode cX9_hearsInData 7 = .ok (.bipush 15, 2) := by decide +kernel
theorem dX9_hearsInData_9 : decode cX9_hearsInData 9 = .ok (.invokevirtual 106, 3) := by decide +kernel
theorem dX9_hearsInData_12 : decode cX9_hearsInData 12 = .ok (.imul, 1) := by decide +kernel
theorem dX9_hearsInData_13 : decode cX9_hearsInData 13 = .ok (.aload_n 0, 1) := by decide +kernel
theorem dX9_hearsInData_14 : decode cX9_hearsInData 14 = .ok (.iload_n 1, 1) := by decide +kernel
theorem dX9_hearsInData_15 : decode cX9_hearsInData 15 = .ok (.iconst 0, 1) := by decide +kernel
theorem dX9_hearsInData_16 : decode cX9_hearsInData 16 = .ok (.invokevirtual 137, 3) := by decide +kernel
theorem dX9_hearsInData_19 : decode cX9_hearsInData 19 = .ok (.ifCond .ne 7, 3) := by decide +kernel
theorem dX9_hearsInData_22 : decode cX9_hearsInData 22 = .ok (.iconst 1, 1) := by decide +kernel
theorem dX9_hearsInData_23 : decode cX9_hearsInData 23 = .ok (.goto 4, 3) := by decide +kernel
theorem dX9_hearsInData_26 : decode cX9_hearsInData 26 = .ok (.iconst 0, 1) := by decide +kernel
theorem dX9_hearsInData_27 : decode cX9_hearsInData 27 = .ok (.iadd, 1) := by decide +kernel
theorem dX9_hearsInData_28 : decode cX9_hearsInData 28 = .ok (.sipush 255, 3) := by decide +kernel
theorem dX9_hearsInData_31 : decode cX9_hearsInData 31 = .ok (.iand, 1) := by decide +kernel
theorem dX9_hearsInData_32 : decode cX9_hearsInData 32 = .ok (.invokevirtual 114, 3) := by decide +kernel
theorem dX9_hearsInData_35 : decode cX9_hearsInData 35 = .ok (.aload_n 0, 1) := by decide +kernel
theorem dX9_hearsInData_36 : decode cX9_hearsInData 36 = .ok (.iload_n 1, 1) := by decide +kernel
theorem dX9_hearsInData_37 : decode cX9_hearsInData 37 = .ok (.bipush 16, 2) := by decide +kernel
theorem dX9_hearsInData_39 : decode cX9_hearsInData 39 = .ok (.aload_n 0, 1) := by decide +kernel
theorem dX9_hearsInData_40 : decode cX9_hearsInData 40 = .ok (.iload_n 1, 1) := by decide +kernel
theorem dX9_hearsInData_41 : decode cX9_hearsInData 41 = .ok (.iconst 0, 1) := by decide +kernel
theorem dX9_hearsInData_42 : decode cX9_hearsInData 42 = .ok (.invokevirtual 137, 3) := by decide +kernel
theorem dX9_hearsInData_45 : decode cX9_hearsInData 45 = .ok (.ifCond .ne 15, 3) := by decide +kernel
theorem dX9_hearsInData_48 : decode cX9_hearsInData 48 = .ok (.aload_n 0, 1) := by decide +kernel
theorem dX9_hearsInData_49 : decode cX9_hearsInData 49 = .ok (.iload_n 1, 1) := by decide +kernel
theorem dX9_hearsInData_50 : decode cX9_hearsInData 50 = .ok (.bipush 16, 2) := by decide +kernel
theorem dX9_hearsInData_52 : decode cX9_hearsInData 52 = .ok (.invokevirtual 106, 3) := by decide +kernel
theorem dX9_hearsInData_55 : decode cX9_hearsInData 55 = .ok (.iconst 1, 1) := by decide +kernel
theorem dX9_hearsInData_56 : decode cX9_hearsInData 56 = .ok (.iadd, 1) := by decide +kernel
theorem dX9_hearsInData_57 : decode cX9_hearsInData 57 = .ok (.goto 4, 3) := by decide +kernel
theorem dX9_hearsInData_60 : decode cX9_hearsInData 60 = .ok (.iconst 0, 1) := by decide +kernel
theorem dX9_hearsInData_61 : decode cX9_hearsInData 61 = .ok (.invokevirtual 114, 3) := by decide +kernel
theorem dX9_hearsInData_64 : decode cX9_hearsInData 64 = .ok (.aload_n 0, 1) := by decide +kernel
theorem dX9_hearsInData_65 : decode cX9_hearsInData 65 = .ok (.iconst 0, 1) := by decide +kernel
theorem dX9_hearsInData_66 : decode cX9_hearsInData 66 = .ok (.putfield 147, 3) := by decide +kernel
theorem dX9_hearsInData_69 : decode cX9_hearsInData 69 = .ok (.aload_n 0, 1) := by decide +kernel
theorem dX9_hearsInData_70 : decode cX9_hearsInData 70 = .ok (.iload_n 1, 1) := by decide +kernel
theorem dX9_hearsInData_71 : decode cX9_hearsInData 71 = .ok (.invokevirtual 143, 3) := by decide +kernel
theorem dX9_hearsInData_74 : decode cX9_hearsInData 74 = .ok (.aload_n 0, 1) := by decide +kernel
theorem dX9_hearsInData_75 : decode cX9_hearsInData 75 = .ok (.getfield 127, 3) := by decide +kernel
theorem dX9_hearsInData_78 : decode cX9_hearsInData 78 = .ok (.ifCond .ne 34, 3) := by decide +kernel
theorem dX9_hearsInData_81 : decode cX9_hearsInData 81 = .ok (.aload_n 0, 1) := by decide +kernel
theorem dX9_hearsInData_82 : decode cX9_hearsInData 82 = .ok (.iload_n 1, 1) := by decide +kernel
theorem dX9_hearsInData_83 : decode cX9_hearsInData 83 = .ok (.iconst 0, 1) := by decide +kernel
theorem dX9_hearsInData_84 : decode cX9_hearsInData 84 = .ok (.invokevirtual 137, 3) := by decide +kernel
theorem dX9_hearsInData_87 : decode cX9_hearsInData 87 = .ok (.bipush 7, 2) := by decide +kernel
theorem dX9_hearsInData_89 : decode cX9_hearsInData 89 = .ok (.if_icmp .ne 23, 3) := by decide +kernel
theorem dX9_hearsInData_92 : decode cX9_hearsInData 92 = .ok (.aload_n 0, 1) := by decide +kernel
theorem dX9_hearsInData_93 : decode cX9_hearsInData 93 = .ok (.iload_n 1, 1) := by decide +kernel
theorem dX9_hearsInData_94 : decode cX9_hearsInData 94 = .ok (.iconst 1, 1) := by decide +kernel
theorem dX9_hearsInData_95 : decode cX9_hearsInData 95 = .ok (.invokevirtual 137, 3) := by decide +kernel
theorem dX9_hearsInData_98 : decode cX9_hearsInData 98 = .ok (.aload_n 0, 1) := by decide +kernel
theorem dX9_hearsInData_99 : decode cX9_hearsInData 99 = .ok (.iload_n 1, 1) := by decide +kernel
theorem dX9_hearsInData_100 : decode cX9_hearsInData 100 = .ok (.iconst 2, 1) := by decide +kernel
theorem dX9_hearsInData_101 : decode cX9_hearsInData 101 = .ok (.invokevirtual 106, 3) := by decide +kernel
theorem dX9_hearsInData_104 : decode cX9_hearsInData 104 = .ok (.if_icmp .ne 8, 3) := by decide +kernel
theorem dX9_hearsInData_107 : decode cX9_hearsInData 107 = .ok (.aload_n 0, 1) := by decide +kernel
theorem dX9_hearsInData_108 : decode cX9_hearsInData 108 = .ok (.iload_n 1, 1) := by decide +kernel
theorem dX9_hearsInData_109 : decode cX9_hearsInData 109 = .ok (.invokevirtual 150, 3) := by decide +kernel
theorem dX9_hearsInData_112 : decode cX9_hearsInData 112 = .ok (.return_, 1) := by decide +kernel
set_option maxRecDepth 20000 in
theorem ggX9_answers_X9_ear : GoodIn wsX9_answers wsX9_ear := goodIn_r _ [5, 6, 37, 38, 39, 40, 41, 42, 43, 44, 45, 46, 47, 48, 49, 50, 51, 52, 53, 54, 55, 56, 57, 58, 59, 60, 61, 62, 63, 64, 65, 66] (by decide +kernel) (by decide +kernel)
set_option maxRecDepth 20000 in
theorem gX9_answers_X9_ear : GoodIn wsX9_answers (wsV RX9 137 RX9 yX9_ear wsX9_ear) := goodIn_app (goodIn_of _ (by decide +kernel)) ggX9_answers_X9_ear
set_option maxRecDepth 20000 in
theorem ggX9_answers_X9_into : GoodIn wsX9_answers wsX9_into := goodIn_r _ [10, 11, 12, 13, 14, 15, 16, 17, 4, 18, 19, 20, 21, 22, 23, 24, 25, 26, 27, 28, 29, 30, 31, 37, 38, 39, 40, 41, 42, 43, 44, 45, 46, 47, 48, 49, 50, 51, 52, 53, 54, 55, 56, 57, 58, 59, 60, 61, 62, 63, 64, 65, 66] (by decide +kernel) (by decide +kernel)
set_option maxRecDepth 20000 in
theorem gX9_answers_X9_into : GoodIn wsX9_answers (wsV RX9 134 RX9 yX9_into wsX9_into) := goodIn_app (goodIn_of _ (by decide +kernel)) ggX9_answers_X9_into
set_option maxRecDepth 20000 in
theorem ggX9_answers_X9_note : GoodIn wsX9_answers wsX9_note := goodIn_r _ [35, 13, 36, 1, 2, 3, 4, 5, 6, 37, 38, 39, 40, 41, 42, 43, 44, 45, 46, 47, 48, 49, 50, 51, 52, 53, 54, 55, 56, 57, 58, 59, 60, 61, 62, 63, 64, 65, 66] (by decide +kernel) (by decide +kernel)
set_option maxRecDepth 20000 in
theorem gX9_answers_X9_note : GoodIn wsX9_answers (wsV RX9 153 RX9 yX9_note wsX9_note) := goodIn_app (goodIn_of _ (by decide +kernel)) ggX9_answers_X9_note
theorem dX9_answers_0 : decode cX9_answers 0 = .ok (.aload_n 0, 1) := by decide +kernel

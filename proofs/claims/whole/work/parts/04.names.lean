theorem inlX0 : ∀ w ∈ wsX00, w ∈ wsL_law := fun _ h => List.mem_append_left _ (List.mem_append_left _ (List.mem_append_right _ h))
theorem inX0 : ∀ w ∈ wsX00, w ∈ lw_tbl := fun w h => wsL_law_in w (inlX0 w h)
theorem inlX1 : ∀ w ∈ wsX10, w ∈ wsL_law := fun _ h => List.mem_append_left _ (List.mem_append_left _ (List.mem_append_left _ (List.mem_append_left _ (List.mem_append_left _ (List.mem_append_left _ (List.mem_append_right _ h))))))
theorem inX1 : ∀ w ∈ wsX10, w ∈ lw_tbl := fun w h => wsL_law_in w (inlX1 w h)
theorem inlX2 : ∀ w ∈ wsX20, w ∈ wsL_law := fun _ h => List.mem_append_left _ (List.mem_append_right _ h)
theorem inX2 : ∀ w ∈ wsX20, w ∈ lw_tbl := fun w h => wsL_law_in w (inlX2 w h)
theorem inlX3 : ∀ w ∈ wsX30, w ∈ wsL_law := fun _ h => List.mem_append_left _ (List.mem_append_left _ (List.mem_append_left _ (List.mem_append_left _ (List.mem_append_right _ h))))
theorem inX3 : ∀ w ∈ wsX30, w ∈ lw_tbl := fun w h => wsL_law_in w (inlX3 w h)
theorem inlX4 : ∀ w ∈ wsX40, w ∈ wsL_law := fun _ h => List.mem_append_left _ (List.mem_append_left _ (List.mem_append_left _ (List.mem_append_left _ (List.mem_append_left _ (List.mem_append_right _ h)))))
theorem inX4 : ∀ w ∈ wsX40, w ∈ lw_tbl := fun w h => wsL_law_in w (inlX4 w h)
theorem inX5 : ∀ w ∈ wsX50, w ∈ lw_tbl := by decide +kernel
theorem inX6 : ∀ w ∈ wsX60, w ∈ lw_tbl := by decide +kernel
theorem inlX7 : ∀ w ∈ wsX70, w ∈ wsL_law := fun _ h => List.mem_append_left _ (List.mem_append_left _ (List.mem_append_left _ (List.mem_append_right _ h)))
theorem inX7 : ∀ w ∈ wsX70, w ∈ lw_tbl := fun w h => wsL_law_in w (inlX7 w h)
theorem inlX8 : ∀ w ∈ wsX80, w ∈ wsL_law := fun _ h => List.mem_append_left _ (List.mem_append_left _ (List.mem_append_left _ (List.mem_append_left _ (List.mem_append_left _ (List.mem_append_left _ (List.mem_append_left _ (List.mem_append_left _ (List.mem_append_right _ h))))))))
theorem inX8 : ∀ w ∈ wsX80, w ∈ lw_tbl := fun w h => wsL_law_in w (inlX8 w h)
theorem inlX9 : ∀ w ∈ wsX90, w ∈ wsL_law := fun _ h => List.mem_append_left _ (List.mem_append_left _ (List.mem_append_left _ (List.mem_append_left _ (List.mem_append_left _ (List.mem_append_left _ (List.mem_append_left _ (List.mem_append_right _ h)))))))
theorem inX9 : ∀ w ∈ wsX90, w ∈ lw_tbl := fun w h => wsL_law_in w (inlX9 w h)
theorem inJ6 : ∀ w ∈ wsJ60, w ∈ lw_tbl := by decide +kernel
theorem inJ9 : ∀ w ∈ wsJ90, w ∈ lw_tbl := by decide +kernel
theorem dX0_init_0 : decode cX0_init 0 = .ok (.aload_n 0, 1) := by decide +kernel
theorem dX0_init_1 : decode cX0_init 1 = .ok (.invokespecial 3, 3) := by decide +kernel
theorem dX0_init_4 : decode cX0_init 4 = .ok (.aload_n 0, 1) := by decide +kernel
theorem dX0_init_5 : decode cX0_init 5 = .ok (.iconst 4, 1) := by decide +kernel
theorem dX0_init_6 : decode cX0_init 6 = .ok (.newarray .int, 2) := by decide +kernel
theorem dX0_init_8 : decode cX0_init 8 = .ok (.putfield 9, 3) := by decide +kernel
theorem dX0_init_11 : decode cX0_init 11 = .ok (.aload_n 0, 1) := by decide +kernel
theorem dX0_init_12 : decode cX0_init 12 = .ok (.iconst 4, 1) := by decide +kernel
theorem dX0_init_13 : decode cX0_init 13 = .ok (.newarray .int, 2) := by decide +kernel
theorem dX0_init_15 : decode cX0_init 15 = .ok (.putfield 15, 3) := by decide +kernel
theorem dX0_init_18 : decode cX0_init 18 = .ok (.return_, 1) := by decide +kernel
theorem dX0_forget_0 : decode cX0_forget 0 = .ok (.iconst 0, 1) := by decide +kernel
theorem dX0_forget_1 : decode cX0_forget 1 = .ok (.istore_n 1, 1) := by decide +kernel
theorem dX0_forget_2 : decode cX0_forget 2 = .ok (.iload_n 1, 1) := by decide +kernel
theorem dX0_forget_3 : decode cX0_forget 3 = .ok (.iconst 4, 1) := by decide +kernel
theorem dX0_forget_4 : decode cX0_forget 4 = .ok (.if_icmp .ge 16, 3) := by decide +kernel
theorem dX0_forget_7 : decode cX0_forget 7 = .ok (.aload_n 0, 1) := by decide +kernel
theorem dX0_forget_8 : decode cX0_forget 8 = .ok (.getfield 15, 3) := by decide +kernel
theorem dX0_forget_11 : decode cX0_forget 11 = .ok (.iload_n 1, 1) := by decide +kernel
theorem dX0_forget_12 : decode cX0_forget 12 = .ok (.iconst 0, 1) := by decide +kernel
theorem dX0_forget_13 : decode cX0_forget 13 = .ok (.iastore, 1) := by decide +kernel
theorem dX0_forget_14 : decode cX0_forget 14 = .ok (.iinc 1 1, 3) := by decide +kernel
theorem dX0_forget_17 : decode cX0_forget 17 = .ok (.goto (-15), 3) := by decide +kernel
theorem dX0_forget_20 : decode cX0_forget 20 = .ok (.return_, 1) := by decide +kernel
set_option maxRecDepth 20000 in
theorem ggX0_follow_X0_sign : GoodIn wsX0_follow wsX0_sign := goodIn_r _ [7] (by decide +kernel) (by decide +kernel)
set_option maxRecDepth 20000 in
theorem gX0_follow_X0_sign : GoodIn wsX0_follow (wsV RX0 18 RX0 yX0_sign wsX0_sign) := goodIn_app (goodIn_of _ (by decide +kernel)) ggX0_follow_X0_sign
theorem dX0_follow_0 : decode cX0_follow 0 = .ok (.iconst 0, 1) := by decide +kernel
theorem dX0_follow_1 : decode cX0_follow 1 = .ok (.istore_n 2, 1) := by decide +kernel
theorem dX0_follow_2 : decode cX0_follow 2 = .ok (.iconst 0, 1) := by decide +kernel
theorem dX0_follow_3 : decode cX0_follow 3 = .ok (.istore_n 3, 1) := by decide +kernel
theorem dX0_follow_4 : decode cX0_follow 4 = .ok (.iload_n 3, 1) := by decide +kernel
theorem dX0_follow_5 : decode cX0_follow 5 = .ok (.iconst 4, 1) := by decide +kernel
theorem dX0_follow_6 : decode cX0_follow 6 = .ok (.if_icmp .ge 36, 3) := by decide +kernel
theorem dX0_follow_9 : decode cX0_follow 9 = .ok (.iload_n 2, 1) := by decide +kernel
theorem dX0_follow_10 : decode cX0_follow 10 = .ok (.bipush 16, 2) := by decide +kernel
theorem dX0_follow_12 : decode cX0_follow 12 = .ok (.aload_n 0, 1) := by decide +kernel
theorem dX0_follow_13 : decode cX0_follow 13 = .ok (.getfield 9, 3) := by decide +kernel
theorem dX0_follow_16 : decode cX0_follow 16 = .ok (.iload_n 3, 1) := by decide +kernel
theorem dX0_follow_17 : decode cX0_follow 17 = .ok (.iaload, 1) := by decide +kernel
theorem dX0_follow_18 : decode cX0_follow 18 = .ok (.imul, 1) := by decide +kernel
theorem dX0_follow_19 : decode cX0_follow 19 = .ok (.aload_n 0, 1) := by decide +kernel
theorem dX0_follow_20 : decode cX0_follow 20 = .ok (.getfield 15, 3) := by decide +kernel
theorem dX0_follow_23 : decode cX0_follow 23 = .ok (.iload_n 3, 1) := by decide +kernel
theorem dX0_follow_24 : decode cX0_follow 24 = .ok (.iaload, 1) := by decide +kernel
theorem dX0_follow_25 : decode cX0_follow 25 = .ok (.isub, 1) := by decide +kernel
theorem dX0_follow_26 : decode cX0_follow 26 = .ok (.aload_n 0, 1) := by decide +kernel
theorem dX0_follow_27 : decode cX0_follow 27 = .ok (.iload_n 1, 1) := by decide +kernel
theorem dX0_follow_28 : decode cX0_follow 28 = .ok (.iload_n 3, 1) := by decide +kernel
theorem dX0_follow_29 : decode cX0_follow 29 = .ok (.isub, 1) := by decide +kernel
theorem dX0_follow_30 : decode cX0_follow 30 = .ok (.invokevirtual 18, 3) := by decide +kernel
theorem dX0_follow_33 : decode cX0_follow 33 = .ok (.imul, 1) := by decide +kernel
theorem dX0_follow_34 : decode cX0_follow 34 = .ok (.iadd, 1) := by decide +kernel
theorem dX0_follow_35 : decode cX0_follow 35 = .ok (.istore_n 2, 1) := by decide +kernel
theorem dX0_follow_36 : decode cX0_follow 36 = .ok (.iinc 3 1, 3) := by decide +kernel
theorem dX0_follow_39 : decode cX0_follow 39 = .ok (.goto (-35), 3) := by decide +kernel
theorem dX0_follow_42 : decode cX0_follow 42 = .ok (.iconst 0, 1) := by decide +kernel
theorem dX0_follow_43 : decode cX0_follow 43 = .ok (.istore_n 3, 1) := by decide +kernel
theorem dX0_follow_44 : decode cX0_follow 44 = .ok (.iload_n 3, 1) := by decide +kernel
theorem dX0_follow_45 : decode cX0_follow 45 = .ok (.iconst 4, 1) := by decide +kernel
theorem dX0_follow_46 : decode cX0_follow 46 = .ok (.if_icmp .ge 30, 3) := by decide +kernel
theorem dX0_follow_49 : decode cX0_follow 49 = .ok (.aload_n 0, 1) := by decide +kernel
theorem dX0_follow_50 : decode cX0_follow 50 = .ok (.getfield 15, 3) := by decide +kernel
theorem dX0_follow_53 : decode cX0_follow 53 = .ok (.iload_n 3, 1) := by decide +kernel
theorem dX0_follow_54 : decode cX0_follow 54 = .ok (.dup2, 1) := by decide +kernel
theorem dX0_follow_55 : decode cX0_follow 55 = .ok (.iaload, 1) := by decide +kernel
theorem dX0_follow_56 : decode cX0_follow 56 = .ok (.iload_n 2, 1) := by decide +kernel
theorem dX0_follow_57 : decode cX0_follow 57 = .ok (.aload_n 0, 1) := by decide +kernel
theorem dX0_follow_58 : decode cX0_follow 58 = .ok (.iload_n 1, 1) := by decide +kernel
theorem dX0_follow_59 : decode cX0_follow 59 = .ok (.iload_n 3, 1) := by decide +kernel
theorem dX0_follow_60 : decode cX0_follow 60 = .ok (.isub, 1) := by decide +kernel
theorem dX0_follow_61 : decode cX0_follow 61 = .ok (.invokevirtual 18, 3) := by decide +kernel
theorem dX0_follow_64 : decode cX0_follow 64 = .ok (.imul, 1) := by decide +kernel
theorem dX0_follow_65 : decode cX0_follow 65 = .ok (.bipush 8, 2) := by decide +kernel
theorem dX0_follow_67 : decode cX0_follow 67 = .ok (.idiv, 1) := by decide +kernel
theorem dX0_follow_68 : decode cX0_follow 68 = .ok (.iadd, 1) := by decide +kernel
theorem dX0_follow_69 : decode cX0_follow 69 = .ok (.iastore, 1) := by decide +kernel
theorem dX0_follow_70 : decode cX0_follow 70 = .ok (.iinc 3 1, 3) := by decide +kernel
theorem dX0_follow_73 : decode cX0_follow 73 = .ok (.goto (-29), 3) := by decide +kernel
theorem dX0_follow_76 : decode cX0_follow 76 = .ok (.return_, 1) := by decide +kernel
theorem dX0_remains_0 : decode cX0_remains 0 = .ok (.iconst 0, 1) := by decide +kernel
theorem dX0_remains_1 : decode cX0_remains 1 = .ok (.istore_n 1, 1) := by decide +kernel
theorem dX0_remains_2 : decode cX0_remains 2 = .ok (.iconst 0, 1) := by decide +kernel
theorem dX0_remains_3 : decode cX0_remains 3 = .ok (.istore_n 2, 1) := by decide +kernel
theorem dX0_remains_4 : decode cX0_remains 4 = .ok (.iload_n 2, 1) := by decide +kernel
theorem dX0_remains_5 : decode cX0_remains 5 = .ok (.iconst 4, 1) := by decide +kernel
theorem dX0_remains_6 : decode cX0_remains 6 = .ok (.if_icmp .ge 31, 3) := by decide +kernel
theorem dX0_remains_9 : decode cX0_remains 9 = .ok (.iload_n 1, 1) := by decide +kernel
theorem dX0_remains_10 : decode cX0_remains 10 = .ok (.bipush 16, 2) := by decide +kernel
theorem dX0_remains_12 : decode cX0_remains 12 = .ok (.aload_n 0, 1) := by decide +kernel
theorem dX0_remains_13 : decode cX0_remains 13 = .ok (.getfield 9, 3) := by decide +kernel
theorem dX0_remains_16 : decode cX0_remains 16 = .ok (.iload_n 2, 1) := by decide +kernel
theorem dX0_remains_17 : decode cX0_remains 17 = .ok (.iaload, 1) := by decide +kernel
theorem dX0_remains_18 : decode cX0_remains 18 = .ok (.imul, 1) := by decide +kernel
theorem dX0_remains_19 : decode cX0_remains 19 = .ok (.aload_n 0, 1) := by decide +kernel
theorem dX0_remains_20 : decode cX0_remains 20 = .ok (.getfield 15, 3) := by decide +kernel
theorem dX0_remains_23 : decode cX0_remains 23 = .ok (.iload_n 2, 1) := by decide +kernel
theorem dX0_remains_24 : decode cX0_remains 24 = .ok (.iaload, 1) := by decide +kernel
theorem dX0_remains_25 : decode cX0_remains 25 = .ok (.isub, 1) := by decide +kernel
theorem dX0_remains_26 : decode cX0_remains 26 = .ok (.invokestatic 22, 3) := by decide +kernel
theorem dX0_remains_29 : decode cX0_remains 29 = .ok (.iadd, 1) := by decide +kernel
theorem dX0_remains_30 : decode cX0_remains 30 = .ok (.istore_n 1, 1) := by decide +kernel
theorem dX0_remains_31 : decode cX0_remains 31 = .ok (.iinc 2 1, 3) := by decide +kernel
theorem dX0_remains_34 : decode cX0_remains 34 = .ok (.goto (-30), 3) := by decide +kernel
theorem dX0_remains_37 : decode cX0_remains 37 = .ok (.iload_n 1, 1) := by decide +kernel
theorem dX0_remains_38 : decode cX0_remains 38 = .ok (.bipush 16, 2) := by decide +kernel
theorem dX0_remains_40 : decode cX0_remains 40 = .ok (.idiv, 1) := by decide +kernel
theorem dX0_remains_41 : decode cX0_remains 41 = .ok (.ireturn, 1) := by decide +kernel
theorem dX0_sign_0 : decode cX0_sign 0 = .ok (.iload_n 1, 1) := by decide +kernel
theorem dX0_sign_1 : decode cX0_sign 1 = .ok (.ifCond .ge 5, 3) := by decide +kernel
theorem dX0_sign_4 : decode cX0_sign 4 = .ok (.iconst 0, 1) := by decide +kernel
theorem dX0_sign_5 : decode cX0_sign 5 = .ok (.ireturn, 1) := by decide +kernel
theorem dX0_sign_6 : decode cX0_sign 6 = .ok (.iload_n 1, 1) := by decide +kernel
theorem dX0_sign_7 : decode cX0_sign 7 = .ok (.iconst 3, 1) := by decide +kernel
theorem dX0_sign_8 : decode cX0_sign 8 = .ok (.irem, 1) := by decide +kernel
theorem dX0_sign_9 : decode cX0_sign 9 = .ok (.ifCond .eq 9, 3) := by decide +kernel
theorem dX0_sign_12 : decode cX0_sign 12 = .ok (.iload_n 1, 1) := by decide +kernel
theorem dX0_sign_13 : decode cX0_sign 13 = .ok (.iconst 5, 1) := by decide +kernel
theorem dX0_sign_14 : decode cX0_sign 14 = .ok (.irem, 1) := by decide +kernel
theorem dX0_sign_15 : decode cX0_sign 15 = .ok (.ifCond .ne 7, 3) := by decide +kernel
theorem dX0_sign_18 : decode cX0_sign 18 = .ok (.iconst 1, 1) := by decide +kernel
theorem dX0_sign_19 : decode cX0_sign 19 = .ok (.goto 4, 3) := by decide +kernel
theorem dX0_sign_22 : decode cX0_sign 22 = .ok (.iconst (-1), 1) := by decide +kernel
theorem dX0_sign_23 : decode cX0_sign 23 = .ok (.ireturn, 1) := by decide +kernel
set_option maxRecDepth 20000 in
theorem ggX1_init_X7_init : GoodIn wsX1_init wsX7_init := goodIn_r _ [13, 14, 2, 3, 15, 16, 17, 18, 19, 20, 21, 22, 23, 24, 25, 26, 27, 28, 29, 30, 31, 32] (by decide +kernel) (by decide +kernel)
set_option maxRecDepth 20000 in
theorem gX1_init_X7_init : GoodIn wsX1_init (wsX7_init) := ggX1_init_X7_init
theorem dX1_init_0 : decode cX1_init 0 = .ok (.aload_n 0, 1) := by decide +kernel
theorem dX1_init_1 : decode cX1_init 1 = .ok (.invokespecial 3, 3) := by decide +kernel
theorem dX1_init_4 : decode cX1_init 4 = .ok (.aload_n 0, 1) := by decide +kernel
theorem dX1_init_5 : decode cX1_init 5 = .ok (.new 9, 3) := by decide +kernel
theorem dX1_init_8 : decode cX1_init 8 = .ok (.dup, 1) := by decide +kernel
theorem dX1_init_9 : decode cX1_init 9 = .ok (.invokespecial 11, 3) := by decide +kernel
theorem dX1_init_12 : decode cX1_init 12 = .ok (.putfield 12, 3) := by decide +kernel
theorem dX1_init_15 : decode cX1_init 15 = .ok (.aload_n 0, 1) := by decide +kernel
theorem dX1_init_16 : decode cX1_init 16 = .ok (.new 9, 3) := by decide +kernel
theorem dX1_init_19 : decode cX1_init 19 = .ok (.dup, 1) := by decide +kernel
theorem dX1_init_20 : decode cX1_init 20 = .ok (.invokespecial 11, 3) := by decide +kernel
theorem dX1_init_23 : decode cX1_init 23 = .ok (.putfield 18, 3) := by decide +kernel
theorem dX1_init_26 : decode cX1_init 26 = .ok (.aload_n 0, 1) := by decide +kernel
theorem dX1_init_27 : decode cX1_init 27 = .ok (.iconst 2, 1) := by decide +kernel
theorem dX1_init_28 : decode cX1_init 28 = .ok (.putfield 21, 3) := by decide +kernel
theorem dX1_init_31 : decode cX1_init 31 = .ok (.aload_n 0, 1) := by decide +kernel
theorem dX1_init_32 : decode cX1_init 32 = .ok (.iconst 0, 1) := by decide +kernel
theorem dX1_init_33 : decode cX1_init 33 = .ok (.putfield 25, 3) := by decide +kernel
theorem dX1_init_36 : decode cX1_init 36 = .ok (.return_, 1) := by decide +kernel
set_option maxRecDepth 20000 in
theorem ggX1_read_X4_qualityAt : GoodIn wsX1_read wsX4_qualityAt := goodIn_r _ [11, 12, 13, 14, 10, 15, 16, 17, 18, 19, 20, 21, 50, 51] (by decide +kernel) (by decide +kernel)
set_option maxRecDepth 20000 in
theorem gX1_read_X4_qualityAt : GoodIn wsX1_read (wsV RX1 32 RX4 yX4_qualityAt wsX4_qualityAt) := goodIn_app (goodIn_of _ (by decide +kernel)) ggX1_read_X4_qualityAt
set_option maxRecDepth 20000 in
theorem ggX1_read_X4_delay : GoodIn wsX1_read wsX4_delay := goodIn_r _ [25, 12, 13, 14, 10, 15, 16, 17, 50, 51] (by decide +kernel) (by decide +kernel)
set_option maxRecDepth 20000 in
theorem gX1_read_X4_delay : GoodIn wsX1_read (wsV RX1 38 RX4 yX4_delay wsX4_delay) := goodIn_app (goodIn_of _ (by decide +kernel)) ggX1_read_X4_delay
set_option maxRecDepth 20000 in
theorem ggX1_read_X4_hurtOf : GoodIn wsX1_read wsX4_hurtOf := goodIn_r _ [29, 16, 30, 31, 32, 10, 33, 12, 13, 14, 15, 17, 34, 35, 36, 37, 50, 51] (by decide +kernel) (by decide +kernel)
set_option maxRecDepth 20000 in
theorem gX1_read_X4_hurtOf : GoodIn wsX1_read (wsV RX1 41 RX4 yX4_hurtOf wsX4_hurtOf) := goodIn_app (goodIn_of _ (by decide +kernel)) ggX1_read_X4_hurtOf
theorem dX1_read_0 : decode cX1_read 0 = .ok (.iconst 0, 1) := by decide +kernel
theorem dX1_read_1 : decode cX1_read 1 = .ok (.istore_n 2, 1) := by decide +kernel
theorem dX1_read_2 : decode cX1_read 2 = .ok (.iload_n 2, 1) := by decide +kernel
theorem dX1_read_3 : decode cX1_read 3 = .ok (.bipush 8, 2) := by decide +kernel
theorem dX1_read_5 : decode cX1_read 5 = .ok (.if_icmp .ge 39, 3) := by decide +kernel
theorem dX1_read_8 : decode cX1_read 8 = .ok (.aload_n 0, 1) := by decide +kernel
theorem dX1_read_9 : decode cX1_read 9 = .ok (.getfield 12, 3) := by decide +kernel
theorem dX1_read_12 : decode cX1_read 12 = .ok (.getfield 28, 3) := by decide +kernel
theorem dX1_read_15 : decode cX1_read 15 = .ok (.iload_n 2, 1) := by decide +kernel
theorem dX1_read_16 : decode cX1_read 16 = .ok (.aload_n 1, 1) := by decide +kernel
theorem dX1_read_17 : decode cX1_read 17 = .ok (.iconst 0, 1) := by decide +kernel
theorem dX1_read_18 : decode cX1_read 18 = .ok (.iload_n 2, 1) := by decide +kernel
theorem dX1_read_19 : decode cX1_read 19 = .ok (.invokevirtual 32, 3) := by decide +kernel
theorem dX1_read_22 : decode cX1_read 22 = .ok (.iastore, 1) := by decide +kernel
theorem dX1_read_23 : decode cX1_read 23 = .ok (.aload_n 0, 1) := by decide +kernel
theorem dX1_read_24 : decode cX1_read 24 = .ok (.getfield 18, 3) := by decide +kernel
theorem dX1_read_27 : decode cX1_read 27 = .ok (.getfield 28, 3) := by decide +kernel
theorem dX1_read_30 : decode cX1_read 30 = .ok (.iload_n 2, 1) := by decide +kernel
theorem dX1_read_31 : decode cX1_read 31 = .ok (.aload_n 1, 1) := by decide +kernel
theorem dX1_read_32 : decode cX1_read 32 = .ok (.iconst 1, 1) := by decide +kernel
theorem dX1_read_33 : decode cX1_read 33 = .ok (.iload_n 2, 1) := by decide +kernel
theorem dX1_read_34 : decode cX1_read 34 = .ok (.invokevirtual 32, 3) := by decide +kernel
theorem dX1_read_37 : decode cX1_read 37 = .ok (.iastore, 1) := by decide +kernel
theorem dX1_read_38 : decode cX1_read 38 = .ok (.iinc 2 1, 3) := by decide +kernel
theorem dX1_read_41 : decode cX1_read 41 = .ok (.goto (-39), 3) := by decide +kernel
theorem dX1_read_44 : decode cX1_read 44 = .ok (.aload_n 0, 1) := by decide +kernel
theorem dX1_read_45 : decode cX1_read 45 = .ok (.aload_n 1, 1) := by decide +kernel
theorem dX1_read_46 : decode cX1_read 46 = .ok (.invokevirtual 38, 3) := by decide +kernel
theorem dX1_read_49 : decode cX1_read 49 = .ok (.putfield 21, 3) := by decide +kernel
theorem dX1_read_52 : decode cX1_read 52 = .ok (.aload_n 0, 1) := by decide +kernel
theorem dX1_read_53 : decode cX1_read 53 = .ok (.getfield 12, 3) := by decide +kernel
theorem dX1_read_56 : decode cX1_read 56 = .ok (.aload_n 1, 1) := by decide +kernel
theorem dX1_read_57 : decode cX1_read 57 = .ok (.iconst 0, 1) := by decide +kernel
theorem dX1_read_58 : decode cX1_read 58 = .ok (.invokevirtual 41, 3) := by decide +kernel
theorem dX1_read_61 : decode cX1_read 61 = .ok (.putfield 45, 3) := by decide +kernel
theorem dX1_read_64 : decode cX1_read 64 = .ok (.aload_n 0, 1) := by decide +kernel
theorem dX1_read_65 : decode cX1_read 65 = .ok (.getfield 18, 3) := by decide +kernel
theorem dX1_read_68 : decode cX1_read 68 = .ok (.aload_n 1, 1) := by decide +kernel
theorem dX1_read_69 : decode cX1_read 69 = .ok (.iconst 1, 1) := by decide +kernel
theorem dX1_read_70 : decode cX1_read 70 = .ok (.invokevirtual 41, 3) := by decide +kernel
theorem dX1_read_73 : decode cX1_read 73 = .ok (.putfield 45, 3) := by decide +kernel
theorem dX1_read_76 : decode cX1_read 76 = .ok (.aload_n 0, 1) := by decide +kernel
theorem dX1_read_77 : decode cX1_read 77 = .ok (.dup, 1) := by decide +kernel
theorem dX1_read_78 : decode cX1_read 78 = .ok (.getfield 25, 3) := by decide +kernel
theorem dX1_read_81 : decode cX1_read 81 = .ok (.iconst 1, 1) := by decide +kernel
theorem dX1_read_82 : decode cX1_read 82 = .ok (.iadd, 1) := by decide +kernel
theorem dX1_read_83 : decode cX1_read 83 = .ok (.putfield 25, 3) := by decide +kernel
theorem dX1_read_86 : decode cX1_read 86 = .ok (.return_, 1) := by decide +kernel
theorem dX2_init_0 : decode cX2_init 0 = .ok (.aload_n 0, 1) := by decide +kernel
theorem dX2_init_1 : decode cX2_init 1 = .ok (.invokespecial 1, 3) := by decide +kernel
theorem dX2_init_4 : decode cX2_init 4 = .ok (.aload_n 0, 1) := by decide +kernel
theorem dX2_init_5 : decode cX2_init 5 = .ok (.sipush 200, 3) := by decide +kernel
theorem dX2_init_8 : decode cX2_init 8 = .ok (.newarray .int, 2) := by decide +kernel
theorem dX2_init_10 : decode cX2_init 10 = .ok (.putfield 9, 3) := by decide +kernel
theorem dX2_init_13 : decode cX2_init 13 = .ok (.aload_n 0, 1) := by decide +kernel
theorem dX2_init_14 : decode cX2_init 14 = .ok (.sipush 200, 3) := by decide +kernel
theorem dX2_init_17 : decode cX2_init 17 = .ok (.newarray .int, 2) := by decide +kernel
theorem dX2_init_19 : decode cX2_init 19 = .ok (.putfield 13, 3) := by decide +kernel
theorem dX2_init_22 : decode cX2_init 22 = .ok (.aload_n 0, 1) := by decide +kernel
theorem dX2_init_23 : decode cX2_init 23 = .ok (.iconst 0, 1) := by decide +kernel
theorem dX2_init_24 : decode cX2_init 24 = .ok (.putfield 16, 3) := by decide +kernel
theorem dX2_init_27 : decode cX2_init 27 = .ok (.aload_n 0, 1) := by decide +kernel
theorem dX2_init_28 : decode cX2_init 28 = .ok (.iconst 0, 1) := by decide +kernel
theorem dX2_init_29 : decode cX2_init 29 = .ok (.putfield 20, 3) := by decide +kernel
theorem dX2_init_32 : decode cX2_init 32 = .ok (.aload_n 0, 1) := by decide +kernel
theorem dX2_init_33 : decode cX2_init 33 = .ok (.iconst 0, 1) := by decide +kernel
theorem dX2_init_34 : decode cX2_init 34 = .ok (.putfield 23, 3) := by decide +kernel
theorem dX2_init_37 : decode cX2_init 37 = .ok (.aload_n 0, 1) := by decide +kernel
theorem dX2_init_38 : decode cX2_init 38 = .ok (.iconst 0, 1) := by decide +kernel
theorem dX2_init_39 : decode cX2_init 39 = .ok (.putfield 26, 3) := by decide +kernel
theorem dX2_init_42 : decode cX2_init 42 = .ok (.aload_n 0, 1) := by decide +kernel
theorem dX2_init_43 : decode cX2_init 43 = .ok (.iconst 0, 1) := by decide +kernel
theorem dX2_init_44 : decode cX2_init 44 = .ok (.putfield 29, 3) := by decide +kernel
theorem dX2_init_47 : decode cX2_init 47 = .ok (.aload_n 0, 1) := by decide +kernel
theorem dX2_init_48 : decode cX2_init 48 = .ok (.iconst 0, 1) := by decide +kernel
theorem dX2_init_49 : decode cX2_init 49 = .ok (.putfield 32, 3) := by decide +kernel
theorem dX2_init_52 : decode cX2_init 52 = .ok (.return_, 1) := by decide +kernel
theorem dX2_add_0 : decode cX2_add 0 = .ok (.aload_n 0, 1) := by decide +kernel
theorem dX2_add_1 : decode cX2_add 1 = .ok (.getfield 16, 3) := by decide +kernel
theorem dX2_add_4 : decode cX2_add 4 = .ok (.ifCond .lt 33, 3) := by decide +kernel
theorem dX2_add_7 : decode cX2_add 7 = .ok (.aload_n 0, 1) := by decide +kernel
theorem dX2_add_8 : decode cX2_add 8 = .ok (.getfield 16, 3) := by decide +kernel
theorem dX2_add_11 : decode cX2_add 11 = .ok (.sipush 200, 3) := by decide +kernel
theorem dX2_add_14 : decode cX2_add 14 = .ok (.if_icmp .ge 23, 3) := by decide +kernel
theorem dX2_add_17 : decode cX2_add 17 = .ok (.aload_n 0, 1) := by decide +kernel
theorem dX2_add_18 : decode cX2_add 18 = .ok (.getfield 9, 3) := by decide +kernel
theorem dX2_add_21 : decode cX2_add 21 = .ok (.aload_n 0, 1) := by decide +kernel
theorem dX2_add_22 : decode cX2_add 22 = .ok (.getfield 16, 3) := by decide +kernel
theorem dX2_add_25 : decode cX2_add 25 = .ok (.iload_n 1, 1) := by decide +kernel
theorem dX2_add_26 : decode cX2_add 26 = .ok (.iastore, 1) := by decide +kernel
theorem dX2_add_27 : decode cX2_add 27 = .ok (.aload_n 0, 1) := by decide +kernel
theorem dX2_add_28 : decode cX2_add 28 = .ok (.dup, 1) := by decide +kernel
theorem dX2_add_29 : decode cX2_add 29 = .ok (.getfield 16, 3) := by decide +kernel
theorem dX2_add_32 : decode cX2_add 32 = .ok (.iconst 1, 1) := by decide +kernel
theorem dX2_add_33 : decode cX2_add 33 = .ok (.iadd, 1) := by decide +kernel
theorem dX2_add_34 : decode cX2_add 34 = .ok (.putfield 16, 3) := by decide +kernel
theorem dX2_add_37 : decode cX2_add 37 = .ok (.return_, 1) := by decide +kernel
theorem dX2_takenAt_0 : decode cX2_takenAt 0 = .ok (.iload_n 1, 1) := by decide +kernel
theorem dX2_takenAt_1 : decode cX2_takenAt 1 = .ok (.ifCond .lt 27, 3) := by decide +kernel
theorem dX2_takenAt_4 : decode cX2_takenAt 4 = .ok (.iload_n 1, 1) := by decide +kernel
theorem dX2_takenAt_5 : decode cX2_takenAt 5 = .ok (.aload_n 0, 1) := by decide +kernel
theorem dX2_takenAt_6 : decode cX2_takenAt 6 = .ok (.getfield 20, 3) := by decide +kernel
theorem dX2_takenAt_9 : decode cX2_takenAt 9 = .ok (.if_icmp .ge 19, 3) := by decide +kernel
theorem dX2_takenAt_12 : decode cX2_takenAt 12 = .ok (.iload_n 1, 1) := by decide +kernel
theorem dX2_takenAt_13 : decode cX2_takenAt 13 = .ok (.sipush 200, 3) := by decide +kernel
theorem dX2_takenAt_16 : decode cX2_takenAt 16 = .ok (.if_icmp .ge 12, 3) := by decide +kernel
theorem dX2_takenAt_19 : decode cX2_takenAt 19 = .ok (.aload_n 0, 1) := by decide +kernel
theorem dX2_takenAt_20 : decode cX2_takenAt 20 = .ok (.getfield 13, 3) := by decide +kernel
theorem dX2_takenAt_23 : decode cX2_takenAt 23 = .ok (.iload_n 1, 1) := by decide +kernel
theorem dX2_takenAt_24 : decode cX2_takenAt 24 = .ok (.iaload, 1) := by decide +kernel
theorem dX2_takenAt_25 : decode cX2_takenAt 25 = .ok (.goto 4, 3) := by decide +kernel
theorem dX2_takenAt_28 : decode cX2_takenAt 28 = .ok (.iconst 0, 1) := by decide +kernel
theorem dX2_takenAt_29 : decode cX2_takenAt 29 = .ok (.ireturn, 1) := by decide +kernel
set_option maxRecDepth 20000 in
theorem ggX2_take_X7_second : GoodIn wsX2_take wsX7_second := goodIn_r _ [12, 13, 34, 35, 36, 37, 38, 39, 40, 41] (by decide +kernel) (by decide +kernel)
set_option maxRecDepth 20000 in
theorem gX2_take_X7_second : GoodIn wsX2_take (wsV RX2 35 RX7 yX7_second wsX7_second) := goodIn_app (goodIn_of _ (by decide +kernel)) ggX2_take_X7_second
set_option maxRecDepth 20000 in
theorem ggX2_take_X7_letters : GoodIn wsX2_take wsX7_letters := goodIn_r _ [17, 13, 34, 35, 36, 37, 38, 39, 40, 41] (by decide +kernel) (by decide +kernel)
set_option maxRecDepth 20000 in
theorem gX2_take_X7_letters : GoodIn wsX2_take (wsV RX2 41 RX7 yX7_letters wsX7_letters) := goodIn_app (goodIn_of _ (by decide +kernel)) ggX2_take_X7_letters
set_option maxRecDepth 20000 in
theorem ggX2_take_X7_enclosed : GoodIn wsX2_take wsX7_enclosed := goodIn_r _ [21, 13, 34, 35, 36, 37, 38, 39, 40, 41] (by decide +kernel) (by decide +kernel)
set_option maxRecDepth 20000 in
theorem gX2_take_X7_enclosed : GoodIn wsX2_take (wsV RX2 44 RX7 yX7_enclosed wsX7_enclosed) := goodIn_app (goodIn_of _ (by decide +kernel)) ggX2_take_X7_enclosed
set_option maxRecDepth 20000 in
theorem ggX2_take_X7_told : GoodIn wsX2_take wsX7_told := goodIn_r _ [25, 13, 34, 35, 36, 37, 38, 39, 40, 41] (by decide +kernel) (by decide +kernel)
set_option maxRecDepth 20000 in
theorem gX2_take_X7_told : GoodIn wsX2_take (wsV RX2 48 RX7 yX7_told wsX7_told) := goodIn_app (goodIn_of _ (by decide +kernel)) ggX2_take_X7_told
theorem dX2_take_0 : decode cX2_take 0 = .ok (.aload_n 1, 1) := by decide +kernel
theorem dX2_take_1 : decode cX2_take 1 = .ok (.invokevirtual 35, 3) := by decide +kernel
theorem dX2_take_4 : decode cX2_take 4 = .ok (.aload_n 0, 1) := by decide +kernel
theorem dX2_take_5 : decode cX2_take 5 = .ok (.getfield 20, 3) := by decide +kernel
theorem dX2_take_8 : decode cX2_take 8 = .ok (.if_icmp .ne 60, 3) := by decide +kernel
theorem dX2_take_11 : decode cX2_take 11 = .ok (.iconst 0, 1) := by decide +kernel
theorem dX2_take_12 : decode cX2_take 12 = .ok (.istore_n 2, 1) := by decide +kernel
theorem dX2_take_13 : decode cX2_take 13 = .ok (.iload_n 2, 1) := by decide +kernel
theorem dX2_take_14 : decode cX2_take 14 = .ok (.aload_n 1, 1) := by decide +kernel
theorem dX2_take_15 : decode cX2_take 15 = .ok (.invokevirtual 41, 3) := by decide +kernel
theorem dX2_take_18 : decode cX2_take 18 = .ok (.if_icmp .ge 50, 3) := by decide +kernel
theorem dX2_take_21 : decode cX2_take 21 = .ok (.aload_n 0, 1) := by decide +kernel
theorem dX2_take_22 : decode cX2_take 22 = .ok (.getfield 20, 3) := by decide +kernel
theorem dX2_take_25 : decode cX2_take 25 = .ok (.ifCond .lt 43, 3) := by decide +kernel
theorem dX2_take_28 : decode cX2_take 28 = .ok (.aload_n 0, 1) := by decide +kernel
theorem dX2_take_29 : decode cX2_take 29 = .ok (.getfield 20, 3) := by decide +kernel
theorem dX2_take_32 : decode cX2_take 32 = .ok (.sipush 200, 3) := by decide +kernel
theorem dX2_take_35 : decode cX2_take 35 = .ok (.if_icmp .ge 33, 3) := by decide +kernel
theorem dX2_take_38 : decode cX2_take 38 = .ok (.aload_n 0, 1) := by decide +kernel
theorem dX2_take_39 : decode cX2_take 39 = .ok (.getfield 13, 3) := by decide +kernel
theorem dX2_take_42 : decode cX2_take 42 = .ok (.aload_n 0, 1) := by decide +kernel
theorem dX2_take_43 : decode cX2_take 43 = .ok (.getfield 20, 3) := by decide +kernel
theorem dX2_take_46 : decode cX2_take 46 = .ok (.aload_n 1, 1) := by decide +kernel
theorem dX2_take_47 : decode cX2_take 47 = .ok (.iload_n 2, 1) := by decide +kernel
theorem dX2_take_48 : decode cX2_take 48 = .ok (.invokevirtual 44, 3) := by decide +kernel
theorem dX2_take_51 : decode cX2_take 51 = .ok (.iastore, 1) := by decide +kernel
theorem dX2_take_52 : decode cX2_take 52 = .ok (.aload_n 0, 1) := by decide +kernel
theorem dX2_take_53 : decode cX2_take 53 = .ok (.dup, 1) := by decide +kernel
theorem dX2_take_54 : decode cX2_take 54 = .ok (.getfield 20, 3) := by decide +kernel
theorem dX2_take_57 : decode cX2_take 57 = .ok (.iconst 1, 1) := by decide +kernel
theorem dX2_take_58 : decode cX2_take 58 = .ok (.iadd, 1) := by decide +kernel
theorem dX2_take_59 : decode cX2_take 59 = .ok (.putfield 20, 3) := by decide +kernel
theorem dX2_take_62 : decode cX2_take 62 = .ok (.iinc 2 1, 3) := by decide +kernel
theorem dX2_take_65 : decode cX2_take 65 = .ok (.goto (-52), 3) := by decide +kernel
theorem dX2_take_68 : decode cX2_take 68 = .ok (.aload_n 0, 1) := by decide +kernel
theorem dX2_take_69 : decode cX2_take 69 = .ok (.aload_n 0, 1) := by decide +kernel
theorem dX2_take_70 : decode cX2_take 70 = .ok (.getfield 23, 3) := by decide +kernel
theorem dX2_take_73 : decode cX2_take 73 = .ok (.aload_n 1, 1) := by decide +kernel
theorem dX2_take_74 : decode cX2_take 74 = .ok (.invokevirtual 48, 3) := by decide +kernel
theorem dX2_take_77 : decode cX2_take 77 = .ok (.invokestatic 50, 3) := by decide +kernel
theorem dX2_take_80 : decode cX2_take 80 = .ok (.putfield 23, 3) := by decide +kernel
theorem dX2_take_83 : decode cX2_take 83 = .ok (.return_, 1) := by decide +kernel
theorem dX2_ready_0 : decode cX2_ready 0 = .ok (.iload_n 1, 1) := by decide +kernel
theorem dX2_ready_1 : decode cX2_ready 1 = .ok (.aload_n 0, 1) := by decide +kernel
theorem dX2_ready_2 : decode cX2_ready 2 = .ok (.getfield 16, 3) := by decide +kernel
theorem dX2_ready_5 : decode cX2_ready 5 = .ok (.aload_n 0, 1) := by decide +kernel
theorem dX2_ready_6 : decode cX2_ready 6 = .ok (.getfield 26, 3) := by decide +kernel
theorem dX2_ready_9 : decode cX2_ready 9 = .ok (.isub, 1) := by decide +kernel
theorem dX2_ready_10 : decode cX2_ready 10 = .ok (.aload_n 0, 1) := by decide +kernel
theorem dX2_ready_11 : decode cX2_ready 11 = .ok (.getfield 23, 3) := by decide +kernel
theorem dX2_ready_14 : decode cX2_ready 14 = .ok (.bipush 64, 2) := by decide +kernel
theorem dX2_ready_16 : decode cX2_ready 16 = .ok (.iadd, 1) := by decide +kernel
theorem dX2_ready_17 : decode cX2_ready 17 = .ok (.aload_n 0, 1) := by decide +kernel
theorem dX2_ready_18 : decode cX2_ready 18 = .ok (.getfield 26, 3) := by decide +kernel
theorem dX2_ready_21 : decode cX2_ready 21 = .ok (.isub, 1) := by decide +kernel
theorem dX2_ready_22 : decode cX2_ready 22 = .ok (.invokestatic 56, 3) := by decide +kernel
theorem dX2_ready_25 : decode cX2_ready 25 = .ok (.invokestatic 56, 3) := by decide +kernel
theorem dX2_ready_28 : decode cX2_ready 28 = .ok (.ireturn, 1) := by decide +kernel
theorem dX2_pass_0 : decode cX2_pass 0 = .ok (.aload_n 0, 1) := by decide +kernel
theorem dX2_pass_1 : decode cX2_pass 1 = .ok (.getfield 26, 3) := by decide +kernel
theorem dX2_pass_4 : decode cX2_pass 4 = .ok (.ifCond .lt 25, 3) := by decide +kernel
theorem dX2_pass_7 : decode cX2_pass 7 = .ok (.aload_n 0, 1) := by decide +kernel
theorem dX2_pass_8 : decode cX2_pass 8 = .ok (.getfield 26, 3) := by decide +kernel
theorem dX2_pass_11 : decode cX2_pass 11 = .ok (.sipush 200, 3) := by decide +kernel
theorem dX2_pass_14 : decode cX2_pass 14 = .ok (.if_icmp .ge 15, 3) := by decide +kernel
theorem dX2_pass_17 : decode cX2_pass 17 = .ok (.aload_n 0, 1) := by decide +kernel
theorem dX2_pass_18 : decode cX2_pass 18 = .ok (.getfield 9, 3) := by decide +kernel
theorem dX2_pass_21 : decode cX2_pass 21 = .ok (.aload_n 0, 1) := by decide +kernel
theorem dX2_pass_22 : decode cX2_pass 22 = .ok (.getfield 26, 3) := by decide +kernel
theorem dX2_pass_25 : decode cX2_pass 25 = .ok (.iaload, 1) := by decide +kernel
theorem dX2_pass_26 : decode cX2_pass 26 = .ok (.goto 4, 3) := by decide +kernel
theorem dX2_pass_29 : decode cX2_pass 29 = .ok (.iconst 0, 1) := by decide +kernel
theorem dX2_pass_30 : decode cX2_pass 30 = .ok (.istore_n 1, 1) := by decide +kernel
theorem dX2_pass_31 : decode cX2_pass 31 = .ok (.aload_n 0, 1) := by decide +kernel
theorem dX2_pass_32 : decode cX2_pass 32 = .ok (.getfield 26, 3) := by decide +kernel
theorem dX2_pass_35 : decode cX2_pass 35 = .ok (.aload_n 0, 1) := by decide +kernel
theorem dX2_pass_36 : decode cX2_pass 36 = .ok (.getfield 32, 3) := by decide +kernel
theorem dX2_pass_39 : decode cX2_pass 39 = .ok (.if_icmp .ge 13, 3) := by decide +kernel
theorem dX2_pass_42 : decode cX2_pass 42 = .ok (.aload_n 0, 1) := by decide +kernel
theorem dX2_pass_43 : decode cX2_pass 43 = .ok (.dup, 1) := by decide +kernel
theorem dX2_pass_44 : decode cX2_pass 44 = .ok (.getfield 29, 3) := by decide +kernel
theorem dX2_pass_47 : decode cX2_pass 47 = .ok (.iconst 1, 1) := by decide +kernel
theorem dX2_pass_48 : decode cX2_pass 48 = .ok (.iadd, 1) := by decide +kernel
theorem dX2_pass_49 : decode cX2_pass 49 = .ok (.putfield 29, 3) := by decide +kernel
theorem dX2_pass_52 : decode cX2_pass 52 = .ok (.aload_n 0, 1) := by decide +kernel
theorem dX2_pass_53 : decode cX2_pass 53 = .ok (.dup, 1) := by decide +kernel
theorem dX2_pass_54 : decode cX2_pass 54 = .ok (.getfield 26, 3) := by decide +kernel
theorem dX2_pass_57 : decode cX2_pass 57 = .ok (.iconst 1, 1) := by decide +kernel
theorem dX2_pass_58 : decode cX2_pass 58 = .ok (.iadd, 1) := by decide +kernel
theorem dX2_pass_59 : decode cX2_pass 59 = .ok (.putfield 26, 3) := by decide +kernel
theorem dX2_pass_62 : decode cX2_pass 62 = .ok (.aload_n 0, 1) := by decide +kernel
theorem dX2_pass_63 : decode cX2_pass 63 = .ok (.aload_n 0, 1) := by decide +kernel
theorem dX2_pass_64 : decode cX2_pass 64 = .ok (.getfield 32, 3) := by decide +kernel
theorem dX2_pass_67 : decode cX2_pass 67 = .ok (.aload_n 0, 1) := by decide +kernel
theorem dX2_pass_68 : decode cX2_pass 68 = .ok (.getfield 26, 3) := by decide +kernel
theorem dX2_pass_71 : decode cX2_pass 71 = .ok (.invokestatic 50, 3) := by decide +kernel
theorem dX2_pass_74 : decode cX2_pass 74 = .ok (.putfield 32, 3) := by decide +kernel
theorem dX2_pass_77 : decode cX2_pass 77 = .ok (.iload_n 1, 1) := by decide +kernel
theorem dX2_pass_78 : decode cX2_pass 78 = .ok (.ireturn, 1) := by decide +kernel
set_option maxRecDepth 20000 in
theorem ggX3_init_X0_init : GoodIn wsX3_init wsX0_init := goodIn_r _ [32, 33, 2, 3, 12, 34, 35, 47, 48] (by decide +kernel) (by decide +kernel)
set_option maxRecDepth 20000 in
theorem gX3_init_X0_init_n11 : GoodIn wsX3_init (wsX0_init) := ggX3_init_X0_init
set_option maxRecDepth 20000 in
theorem ggX3_init_X2_init : GoodIn wsX3_init wsX2_init := goodIn_r _ [37, 38, 2, 3, 12, 39, 40, 41, 42, 43, 44, 45, 46, 69, 70, 71, 72, 73, 74, 75, 76] (by decide +kernel) (by decide +kernel)
set_option maxRecDepth 20000 in
theorem gX3_init_X2_init_n20 : GoodIn wsX3_init (wsX2_init) := ggX3_init_X2_init
theorem dX3_init_0 : decode cX3_init 0 = .ok (.aload_n 0, 1) := by decide +kernel
theorem dX3_init_1 : decode cX3_init 1 = .ok (.invokespecial 3, 3) := by decide +kernel
theorem dX3_init_4 : decode cX3_init 4 = .ok (.aload_n 0, 1) := by decide +kernel
theorem dX3_init_5 : decode cX3_init 5 = .ok (.new 9, 3) := by decide +kernel
theorem dX3_init_8 : decode cX3_init 8 = .ok (.dup, 1) := by decide +kernel
theorem dX3_init_9 : decode cX3_init 9 = .ok (.invokespecial 11, 3) := by decide +kernel
theorem dX3_init_12 : decode cX3_init 12 = .ok (.putfield 12, 3) := by decide +kernel
theorem dX3_init_15 : decode cX3_init 15 = .ok (.aload_n 0, 1) := by decide +kernel
theorem dX3_init_16 : decode cX3_init 16 = .ok (.new 18, 3) := by decide +kernel
theorem dX3_init_19 : decode cX3_init 19 = .ok (.dup, 1) := by decide +kernel
theorem dX3_init_20 : decode cX3_init 20 = .ok (.invokespecial 20, 3) := by decide +kernel
theorem dX3_init_23 : decode cX3_init 23 = .ok (.putfield 21, 3) := by decide +kernel
theorem dX3_init_26 : decode cX3_init 26 = .ok (.aload_n 0, 1) := by decide +kernel
theorem dX3_init_27 : decode cX3_init 27 = .ok (.bipush 8, 2) := by decide +kernel
theorem dX3_init_29 : decode cX3_init 29 = .ok (.newarray .int, 2) := by decide +kernel
theorem dX3_init_31 : decode cX3_init 31 = .ok (.putfield 25, 3) := by decide +kernel
theorem dX3_init_34 : decode cX3_init 34 = .ok (.aload_n 0, 1) := by decide +kernel
theorem dX3_init_35 : decode cX3_init 35 = .ok (.iconst 0, 1) := by decide +kernel
theorem dX3_init_36 : decode cX3_init 36 = .ok (.putfield 31, 3) := by decide +kernel
theorem dX3_init_39 : decode cX3_init 39 = .ok (.aload_n 0, 1) := by decide +kernel
theorem dX3_init_40 : decode cX3_init 40 = .ok (.iconst 0, 1) := by decide +kernel
theorem dX3_init_41 : decode cX3_init 41 = .ok (.putfield 35, 3) := by decide +kernel
theorem dX3_init_44 : decode cX3_init 44 = .ok (.aload_n 0, 1) := by decide +kernel
theorem dX3_init_45 : decode cX3_init 45 = .ok (.iconst 0, 1) := by decide +kernel
theorem dX3_init_46 : decode cX3_init 46 = .ok (.putfield 38, 3) := by decide +kernel
theorem dX3_init_49 : decode cX3_init 49 = .ok (.aload_n 0, 1) := by decide +kernel
theorem dX3_init_50 : decode cX3_init 50 = .ok (.iconst 0, 1) := by decide +kernel
theorem dX3_init_51 : decode cX3_init 51 = .ok (.putfield 41, 3) := by decide +kernel
theorem dX3_init_54 : decode cX3_init 54 = .ok (.aload_n 0, 1) := by decide +kernel
theorem dX3_init_55 : decode cX3_init 55 = .ok (.iconst 0, 1) := by decide +kernel
theorem dX3_init_56 : decode cX3_init 56 = .ok (.putfield 44, 3) := by decide +kernel
theorem dX3_init_59 : decode cX3_init 59 = .ok (.aload_n 0, 1) := by decide +kernel
theorem dX3_init_60 : decode cX3_init 60 = .ok (.iconst 0, 1) := by decide +kernel
theorem dX3_init_61 : decode cX3_init 61 = .ok (.putfield 47, 3) := by decide +kernel
theorem dX3_init_64 : decode cX3_init 64 = .ok (.aload_n 0, 1) := by decide +kernel
theorem dX3_init_65 : decode cX3_init 65 = .ok (.iconst 0, 1) := by decide +kernel
theorem dX3_init_66 : decode cX3_init 66 = .ok (.putfield 50, 3) := by decide +kernel
theorem dX3_init_69 : decode cX3_init 69 = .ok (.aload_n 0, 1) := by decide +kernel
theorem dX3_init_70 : decode cX3_init 70 = .ok (.iconst 0, 1) := by decide +kernel
theorem dX3_init_71 : decode cX3_init 71 = .ok (.putfield 53, 3) := by decide +kernel
theorem dX3_init_74 : decode cX3_init 74 = .ok (.aload_n 0, 1) := by decide +kernel
theorem dX3_init_75 : decode cX3_init 75 = .ok (.iconst 0, 1) := by decide +kernel
theorem dX3_init_76 : decode cX3_init 76 = .ok (.putfield 56, 3) := by decide +kernel
theorem dX3_init_79 : decode cX3_init 79 = .ok (.aload_n 0, 1) := by decide +kernel
theorem dX3_init_80 : decode cX3_init 80 = .ok (.iconst 0, 1) := by decide +kernel
theorem dX3_init_81 : decode cX3_init 81 = .ok (.putfield 59, 3) := by decide +kernel
theorem dX3_init_84 : decode cX3_init 84 = .ok (.aload_n 0, 1) := by decide +kernel
theorem dX3_init_85 : decode cX3_init 85 = .ok (.iconst 0, 1) := by decide +kernel
theorem dX3_init_86 : decode cX3_init 86 = .ok (.putfield 62, 3) := by decide +kernel
theorem dX3_init_89 : decode cX3_init 89 = .ok (.aload_n 0, 1) := by decide +kernel
theorem dX3_init_90 : decode cX3_init 90 = .ok (.iconst 0, 1) := by decide +kernel
theorem dX3_init_91 : decode cX3_init 91 = .ok (.putfield 65, 3) := by decide +kernel
theorem dX3_init_94 : decode cX3_init 94 = .ok (.aload_n 0, 1) := by decide +kernel
theorem dX3_init_95 : decode cX3_init 95 = .ok (.iconst 0, 1) := by decide +kernel
theorem dX3_init_96 : decode cX3_init 96 = .ok (.putfield 68, 3) := by decide +kernel
theorem dX3_init_99 : decode cX3_init 99 = .ok (.aload_n 0, 1) := by decide +kernel
theorem dX3_init_100 : decode cX3_init 100 = .ok (.iconst 0, 1) := by decide +kernel
theorem dX3_init_101 : decode cX3_init 101 = .ok (.putfield 71, 3) := by decide +kernel
theorem dX3_init_104 : decode cX3_init 104 = .ok (.aload_n 0, 1) := by decide +kernel
theorem dX3_init_105 : decode cX3_init 105 = .ok (.aload_n 1, 1) := by decide +kernel
theorem dX3_init_106 : decode cX3_init 106 = .ok (.putfield 74, 3) := by decide +kernel
theorem dX3_init_109 : decode cX3_init 109 = .ok (.aload_n 0, 1) := by decide +kernel
theorem dX3_init_110 : decode cX3_init 110 = .ok (.aload_n 2, 1) := by decide +kernel
theorem dX3_init_111 : decode cX3_init 111 = .ok (.putfield 78, 3) := by decide +kernel
theorem dX3_init_114 : decode cX3_init 114 = .ok (.aload_n 0, 1) := by decide +kernel
theorem dX3_init_115 : decode cX3_init 115 = .ok (.aload_n 3, 1) := by decide +kernel
theorem dX3_init_116 : decode cX3_init 116 = .ok (.putfield 82, 3) := by decide +kernel
theorem dX3_init_119 : decode cX3_init 119 = .ok (.return_, 1) := by decide +kernel
theorem dX3_fact_0 : decode cX3_fact 0 = .ok (.iload_n 1, 1) := by decide +kernel
theorem dX3_fact_1 : decode cX3_fact 1 = .ok (.tableswitch 171 0 15 #[79, 84, 89, 94, 99, 104, 109, 117, 125, 133, 141, 146, 151, 156, 161, 166], 79) := by decide +kernel
theorem dX3_fact_80 : decode cX3_fact 80 = .ok (.aload_n 0, 1) := by decide +kernel
theorem dX3_fact_81 : decode cX3_fact 81 = .ok (.getfield 31, 3) := by decide +kernel
theorem dX3_fact_84 : decode cX3_fact 84 = .ok (.ireturn, 1) := by decide +kernel
theorem dX3_fact_85 : decode cX3_fact 85 = .ok (.aload_n 0, 1) := by decide +kernel
theorem dX3_fact_86 : decode cX3_fact 86 = .ok (.getfield 38, 3) := by decide +kernel
theorem dX3_fact_89 : decode cX3_fact 89 = .ok (.ireturn, 1) := by decide +kernel
theorem dX3_fact_90 : decode cX3_fact 90 = .ok (.aload_n 0, 1) := by decide +kernel
theorem dX3_fact_91 : decode cX3_fact 91 = .ok (.getfield 44, 3) := by decide +kernel
theorem dX3_fact_94 : decode cX3_fact 94 = .ok (.ireturn, 1) := by decide +kernel
theorem dX3_fact_95 : decode cX3_fact 95 = .ok (.aload_n 0, 1) := by decide +kernel
theorem dX3_fact_96 : decode cX3_fact 96 = .ok (.getfield 47, 3) := by decide +kernel
theorem dX3_fact_99 : decode cX3_fact 99 = .ok (.ireturn, 1) := by decide +kernel
theorem dX3_fact_100 : decode cX3_fact 100 = .ok (.aload_n 0, 1) := by decide +kernel
theorem dX3_fact_101 : decode cX3_fact 101 = .ok (.getfield 50, 3) := by decide +kernel
theorem dX3_fact_104 : decode cX3_fact 104 = .ok (.ireturn, 1) := by decide +kernel
theorem dX3_fact_105 : decode cX3_fact 105 = .ok (.aload_n 0, 1) := by decide +kernel
theorem dX3_fact_106 : decode cX3_fact 106 = .ok (.getfield 53, 3) := by decide +kernel
theorem dX3_fact_109 : decode cX3_fact 109 = .ok (.ireturn, 1) := by decide +kernel
theorem dX3_fact_110 : decode cX3_fact 110 = .ok (.aload_n 0, 1) := by decide +kernel
theorem dX3_fact_111 : decode cX3_fact 111 = .ok (.getfield 21, 3) := by decide +kernel
theorem dX3_fact_114 : decode cX3_fact 114 = .ok (.getfield 85, 3) := by decide +kernel
theorem dX3_fact_117 : decode cX3_fact 117 = .ok (.ireturn, 1) := by decide +kernel
theorem dX3_fact_118 : decode cX3_fact 118 = .ok (.aload_n 0, 1) := by decide +kernel
theorem dX3_fact_119 : decode cX3_fact 119 = .ok (.getfield 21, 3) := by decide +kernel
theorem dX3_fact_122 : decode cX3_fact 122 = .ok (.getfield 88, 3) := by decide +kernel
theorem dX3_fact_125 : decode cX3_fact 125 = .ok (.ireturn, 1) := by decide +kernel
theorem dX3_fact_126 : decode cX3_fact 126 = .ok (.aload_n 0, 1) := by decide +kernel
theorem dX3_fact_127 : decode cX3_fact 127 = .ok (.getfield 21, 3) := by decide +kernel
theorem dX3_fact_130 : decode cX3_fact 130 = .ok (.getfield 91, 3) := by decide +kernel
theorem dX3_fact_133 : decode cX3_fact 133 = .ok (.ireturn, 1) := by decide +kernel
theorem dX3_fact_134 : decode cX3_fact 134 = .ok (.aload_n 0, 1) := by decide +kernel
theorem dX3_fact_135 : decode cX3_fact 135 = .ok (.getfield 21, 3) := by decide +kernel
theorem dX3_fact_138 : decode cX3_fact 138 = .ok (.getfield 94, 3) := by decide +kernel
theorem dX3_fact_141 : decode cX3_fact 141 = .ok (.ireturn, 1) := by decide +kernel
theorem dX3_fact_142 : decode cX3_fact 142 = .ok (.aload_n 0, 1) := by decide +kernel
theorem dX3_fact_143 : decode cX3_fact 143 = .ok (.getfield 56, 3) := by decide +kernel
theorem dX3_fact_146 : decode cX3_fact 146 = .ok (.ireturn, 1) := by decide +kernel
theorem dX3_fact_147 : decode cX3_fact 147 = .ok (.aload_n 0, 1) := by decide +kernel
theorem dX3_fact_148 : decode cX3_fact 148 = .ok (.getfield 59, 3) := by decide +kernel
theorem dX3_fact_151 : decode cX3_fact 151 = .ok (.ireturn, 1) := by decide +kernel
theorem dX3_fact_152 : decode cX3_fact 152 = .ok (.aload_n 0, 1) := by decide +kernel
theorem dX3_fact_153 : decode cX3_fact 153 = .ok (.getfield 65, 3) := by decide +kernel
theorem dX3_fact_156 : decode cX3_fact 156 = .ok (.ireturn, 1) := by decide +kernel
theorem dX3_fact_157 : decode cX3_fact 157 = .ok (.aload_n 0, 1) := by decide +kernel
theorem dX3_fact_158 : decode cX3_fact 158 = .ok (.getfield 68, 3) := by decide +kernel
theorem dX3_fact_161 : decode cX3_fact 161 = .ok (.ireturn, 1) := by decide +kernel
theorem dX3_fact_162 : decode cX3_fact 162 = .ok (.aload_n 0, 1) := by decide +kernel
theorem dX3_fact_163 : decode cX3_fact 163 = .ok (.getfield 71, 3) := by decide +kernel
theorem dX3_fact_166 : decode cX3_fact 166 = .ok (.ireturn, 1) := by decide +kernel
theorem dX3_fact_167 : decode cX3_fact 167 = .ok (.aload_n 0, 1) := by decide +kernel
theorem dX3_fact_168 : decode cX3_fact 168 = .ok (.getfield 62, 3) := by decide +kernel
theorem dX3_fact_171 : decode cX3_fact 171 = .ok (.ireturn, 1) := by decide +kernel
theorem dX3_fact_172 : decode cX3_fact 172 = .ok (.sipush (-1002), 3) := by decide +kernel
theorem dX3_fact_175 : decode cX3_fact 175 = .ok (.ireturn, 1) := by decide +kernel
theorem dX3_force_0 : decode cX3_force 0 = .ok (.aload_n 0, 1) := by decide +kernel
theorem dX3_force_1 : decode cX3_force 1 = .ok (.iload_n 1, 1) := by decide +kernel
theorem dX3_force_2 : decode cX3_force 2 = .ok (.putfield 31, 3) := by decide +kernel
theorem dX3_force_5 : decode cX3_force 5 = .ok (.aload_n 0, 1) := by decide +kernel
theorem dX3_force_6 : decode cX3_force 6 = .ok (.iconst 0, 1) := by decide +kernel
theorem dX3_force_7 : decode cX3_force 7 = .ok (.putfield 38, 3) := by decide +kernel
theorem dX3_force_10 : decode cX3_force 10 = .ok (.return_, 1) := by decide +kernel
set_option maxRecDepth 20000 in
theorem ggX3_live_X7_bring : GoodIn wsX3_live wsX7_bring := goodIn_r _ [14, 15, 16, 17, 18, 19, 20, 21, 227, 228, 229, 230, 231, 232, 233, 234] (by decide +kernel) (by decide +kernel)
set_option maxRecDepth 20000 in
theorem gX3_live_X7_bring : GoodIn wsX3_live (wsV RX3 97 RX7 yX7_bring wsX7_bring) := goodIn_app (goodIn_of _ (by decide +kernel)) ggX3_live_X7_bring
set_option maxRecDepth 20000 in
theorem ggX3_live_X3_surrender : GoodIn wsX3_live wsX3_surrender := goodIn_r _ [26, 1, 9, 6, 27, 28, 29, 30, 25, 31, 2, 32, 33, 34, 35, 36, 3, 4, 37, 38, 39, 40, 41, 42, 43, 44, 195, 196, 197, 198, 199, 200, 201, 202, 203, 204, 205, 206, 207, 208, 209, 210, 211, 212, 213, 214, 215, 216, 217, 218, 219, 220, 221, 222, 235, 236] (by decide +kernel) (by decide +kernel)
set_option maxRecDepth 20000 in
theorem gX3_live_X3_surrender : GoodIn wsX3_live (wsV RX3 103 RX3 yX3_surrender wsX3_surrender) := goodIn_app (goodIn_of _ (by decide +kernel)) ggX3_live_X3_surrender
set_option maxRecDepth 20000 in
theorem ggX3_live_X3_hear : GoodIn wsX3_live wsX3_hear := goodIn_r _ [48, 5, 1, 49, 50, 51, 13, 52, 20, 28, 29, 30, 25, 31, 9, 2, 32, 33, 34, 35, 36, 3, 4, 37, 38, 39, 40, 41, 42, 43, 44, 53, 54, 55, 56, 57, 58, 59, 60, 61, 62, 63, 64, 65, 66, 67, 68, 69, 70, 71, 72, 73, 74, 75, 76, 77, 78, 79, 80, 81, 82, 83, 84, 85, 86, 87, 88, 89, 90, 91, 92, 93, 94, 95, 96, 97, 98, 99, 100, 101, 102, 103, 104, 105, 106, 107, 108, 109, 110, 111, 112, 113, 114, 115, 116, 195, 196, 197, 198, 199, 200, 201, 202, 203, 204, 205, 206, 207, 208, 209, 210, 211, 212, 213, 214, 227, 228, 229, 230, 231, 232, 233, 234, 215, 216, 217, 218, 219, 220, 221, 222, 235, 236] (by decide +kernel) (by decide +kernel)
set_option maxRecDepth 20000 in
theorem gX3_live_X3_hear : GoodIn wsX3_live (wsV RX3 106 RX3 yX3_hear wsX3_hear) := goodIn_app (goodIn_of _ (by decide +kernel)) ggX3_live_X3_hear
set_option maxRecDepth 20000 in
theorem ggX3_live_X3_look : GoodIn wsX3_live wsX3_look := goodIn_r _ [120, 1, 9, 7, 8, 75, 28, 29, 30, 25, 31, 2, 32, 33, 34, 35, 36, 3, 4, 37, 38, 39, 40, 41, 42, 43, 44, 121, 122, 123, 124, 125, 66, 126, 102, 69, 103, 67, 68, 70, 127, 128, 129, 130, 131, 132, 133, 134, 135, 136, 137, 138, 139, 140, 141, 142, 143, 144, 145, 146, 147, 148, 149, 150, 195, 196, 197, 198, 199, 200, 201, 202, 203, 204, 205, 206, 207, 208, 209, 210, 211, 212, 213, 214, 223, 224, 225, 226, 215, 216, 217, 218, 219, 220, 221, 222, 235, 236] (by decide +kernel) (by decide +kernel)
set_option maxRecDepth 20000 in
theorem gX3_live_X3_look : GoodIn wsX3_live (wsV RX3 109 RX3 yX3_look wsX3_look) := goodIn_app (goodIn_of _ (by decide +kernel)) ggX3_live_X3_look
set_option maxRecDepth 20000 in
theorem ggX3_live_X7_sort : GoodIn wsX3_live wsX7_sort := goodIn_r _ [52, 20, 227, 228, 229, 230, 231, 232, 233, 234] (by decide +kernel) (by decide +kernel)
set_option maxRecDepth 20000 in
theorem gX3_live_X7_sort : GoodIn wsX3_live (wsV RX3 113 RX7 yX7_sort wsX7_sort) := goodIn_app (goodIn_of _ (by decide +kernel)) ggX3_live_X7_sort
set_option maxRecDepth 20000 in
theorem ggX3_live_X3_speak : GoodIn wsX3_live wsX3_speak := goodIn_r _ [154, 1, 155, 33, 9, 75, 66, 84, 156, 157, 158, 13, 159, 15, 16, 21, 160, 161, 162, 25, 163, 164, 165, 166, 42, 167, 131, 44, 168, 169, 170, 171, 172, 173, 174, 175, 34, 67, 68, 69, 70, 3, 37, 176, 177, 178, 179, 96, 180, 181, 182, 100, 183, 184, 185, 186, 187, 188, 189, 190, 101, 102, 103, 191, 192, 193, 194, 195, 196, 197, 198, 199, 200, 201, 202, 203, 204, 205, 206, 207, 208, 209, 210, 211, 212, 213, 214, 227, 228, 229, 230, 231, 232, 233, 234, 235, 236, 215, 216, 217, 218, 219, 220, 221, 222] (by decide +kernel) (by decide +kernel)
set_option maxRecDepth 20000 in
theorem gX3_live_X3_speak : GoodIn wsX3_live (wsV RX3 122 RX3 yX3_speak wsX3_speak) := goodIn_app (goodIn_of _ (by decide +kernel)) ggX3_live_X3_speak
theorem dX3_live_0 : decode cX3_live 0 = .ok (.aload_n 0, 1) := by decide +kernel
theorem dX3_live_1 : decode cX3_live 1 = .ok (.getfield 31, 3) := by decide +kernel
theorem dX3_live_4 : decode cX3_live 4 = .ok (.bipush 7, 2) := by decide +kernel
theorem dX3_live_6 : decode cX3_live 6 = .ok (.if_icmp .ne 7, 3) := by decide +kernel
theorem dX3_live_9 : decode cX3_live 9 = .ok (.iconst 1, 1) := by decide +kernel
theorem dX3_live_10 : decode cX3_live 10 = .ok (.goto 4, 3) := by decide +kernel
theorem dX3_live_13 : decode cX3_live 13 = .ok (.iconst 0, 1) := by decide +kernel
theorem dX3_live_14 : decode cX3_live 14 = .ok (.istore_n 2, 1) := by decide +kernel
theorem dX3_live_15 : decode cX3_live 15 = .ok (.aload_n 0, 1) := by decide +kernel
theorem dX3_live_16 : decode cX3_live 16 = .ok (.getfield 35, 3) := by decide +kernel
theorem dX3_live_19 : decode cX3_live 19 = .ok (.istore_n 3, 1) := by decide +kernel
theorem dX3_live_20 : decode cX3_live 20 = .ok (.aload_n 0, 1) := by decide +kernel
theorem dX3_live_21 : decode cX3_live 21 = .ok (.getfield 21, 3) := by decide +kernel
theorem dX3_live_24 : decode cX3_live 24 = .ok (.getfield 91, 3) := by decide +kernel
theorem dX3_live_27 : decode cX3_live 27 = .ok (.istore 4, 2) := by decide +kernel
theorem dX3_live_29 : decode cX3_live 29 = .ok (.aload_n 0, 1) := by decide +kernel
theorem dX3_live_30 : decode cX3_live 30 = .ok (.getfield 78, 3) := by decide +kernel
theorem dX3_live_33 : decode cX3_live 33 = .ok (.iload_n 1, 1) := by decide +kernel
theorem dX3_live_34 : decode cX3_live 34 = .ok (.invokevirtual 97, 3) := by decide +kernel
theorem dX3_live_37 : decode cX3_live 37 = .ok (.aload_n 0, 1) := by decide +kernel
theorem dX3_live_38 : decode cX3_live 38 = .ok (.invokevirtual 103, 3) := by decide +kernel
theorem dX3_live_41 : decode cX3_live 41 = .ok (.aload_n 0, 1) := by decide +kernel
theorem dX3_live_42 : decode cX3_live 42 = .ok (.getfield 35, 3) := by decide +kernel
theorem dX3_live_45 : decode cX3_live 45 = .ok (.iload_n 3, 1) := by decide +kernel
theorem dX3_live_46 : decode cX3_live 46 = .ok (.if_icmp .ne 7, 3) := by decide +kernel
theorem dX3_live_49 : decode cX3_live 49 = .ok (.aload_n 0, 1) := by decide +kernel
theorem dX3_live_50 : decode cX3_live 50 = .ok (.invokevirtual 106, 3) := by decide +kernel
theorem dX3_live_53 : decode cX3_live 53 = .ok (.aload_n 0, 1) := by decide +kernel
theorem dX3_live_54 : decode cX3_live 54 = .ok (.getfield 35, 3) := by decide +kernel
theorem dX3_live_57 : decode cX3_live 57 = .ok (.iload_n 3, 1) := by decide +kernel
theorem dX3_live_58 : decode cX3_live 58 = .ok (.if_icmp .ne 24, 3) := by decide +kernel
theorem dX3_live_61 : decode cX3_live 61 = .ok (.aload_n 0, 1) := by decide +kernel
theorem dX3_live_62 : decode cX3_live 62 = .ok (.aload_n 0, 1) := by decide +kernel
theorem dX3_live_63 : decode cX3_live 63 = .ok (.getfield 21, 3) := by decide +kernel
theorem dX3_live_66 : decode cX3_live 66 = .ok (.getfield 91, 3) := by decide +kernel
theorem dX3_live_69 : decode cX3_live 69 = .ok (.iload 4, 2) := by decide +kernel
theorem dX3_live_71 : decode cX3_live 71 = .ok (.if_icmp .le 7, 3) := by decide +kernel
theorem dX3_live_74 : decode cX3_live 74 = .ok (.iconst 1, 1) := by decide +kernel
theorem dX3_live_75 : decode cX3_live 75 = .ok (.goto 4, 3) := by decide +kernel
theorem dX3_live_78 : decode cX3_live 78 = .ok (.iconst 0, 1) := by decide +kernel
theorem dX3_live_79 : decode cX3_live 79 = .ok (.invokevirtual 109, 3) := by decide +kernel
theorem dX3_live_82 : decode cX3_live 82 = .ok (.aload_n 0, 1) := by decide +kernel
theorem dX3_live_83 : decode cX3_live 83 = .ok (.iload_n 2, 1) := by decide +kernel
theorem dX3_live_84 : decode cX3_live 84 = .ok (.ifCond .eq 22, 3) := by decide +kernel
theorem dX3_live_87 : decode cX3_live 87 = .ok (.aload_n 0, 1) := by decide +kernel
theorem dX3_live_88 : decode cX3_live 88 = .ok (.getfield 78, 3) := by decide +kernel
theorem dX3_live_91 : decode cX3_live 91 = .ok (.invokevirtual 113, 3) := by decide +kernel
theorem dX3_live_94 : decode cX3_live 94 = .ok (.ifCond .ne 12, 3) := by decide +kernel
theorem dX3_live_97 : decode cX3_live 97 = .ok (.aload_n 0, 1) := by decide +kernel
theorem dX3_live_98 : decode cX3_live 98 = .ok (.getfield 41, 3) := by decide +kernel
theorem dX3_live_101 : decode cX3_live 101 = .ok (.iconst 1, 1) := by decide +kernel
theorem dX3_live_102 : decode cX3_live 102 = .ok (.iadd, 1) := by decide +kernel
theorem dX3_live_103 : decode cX3_live 103 = .ok (.goto 4, 3) := by decide +kernel
theorem dX3_live_106 : decode cX3_live 106 = .ok (.iconst 0, 1) := by decide +kernel
theorem dX3_live_107 : decode cX3_live 107 = .ok (.putfield 41, 3) := by decide +kernel
theorem dX3_live_110 : decode cX3_live 110 = .ok (.aload_n 0, 1) := by decide +kernel
theorem dX3_live_111 : decode cX3_live 111 = .ok (.iload_n 1, 1) := by decide +kernel
theorem dX3_live_112 : decode cX3_live 112 = .ok (.aload_n 0, 1) := by decide +kernel
theorem dX3_live_113 : decode cX3_live 113 = .ok (.getfield 74, 3) := by decide +kernel
theorem dX3_live_116 : decode cX3_live 116 = .ok (.getfield 117, 3) := by decide +kernel
theorem dX3_live_119 : decode cX3_live 119 = .ok (.iadd, 1) := by decide +kernel
theorem dX3_live_120 : decode cX3_live 120 = .ok (.invokevirtual 122, 3) := by decide +kernel
theorem dX3_live_123 : decode cX3_live 123 = .ok (.aload_n 0, 1) := by decide +kernel
theorem dX3_live_124 : decode cX3_live 124 = .ok (.dup, 1) := by decide +kernel
theorem dX3_live_125 : decode cX3_live 125 = .ok (.getfield 38, 3) := by decide +kernel
theorem dX3_live_128 : decode cX3_live 128 = .ok (.iconst 1, 1) := by decide +kernel
theorem dX3_live_129 : decode cX3_live 129 = .ok (.iadd, 1) := by decide +kernel
theorem dX3_live_130 : decode cX3_live 130 = .ok (.putfield 38, 3) := by decide +kernel
theorem dX3_live_133 : decode cX3_live 133 = .ok (.return_, 1) := by decide +kernel
set_option maxRecDepth 20000 in
theorem ggX3_come_X0_forget : GoodIn wsX3_come wsX0_forget := goodIn_r _ [17, 18, 47, 48] (by decide +kernel) (by decide +kernel)
set_option maxRecDepth 20000 in
theorem gX3_come_X0_forget : GoodIn wsX3_come (wsV RX3 125 RX0 yX0_forget wsX0_forget) := goodIn_app (goodIn_of _ (by decide +kernel)) ggX3_come_X0_forget
theorem dX3_come_0 : decode cX3_come 0 = .ok (.aload_n 0, 1) := by decide +kernel
theorem dX3_come_1 : decode cX3_come 1 = .ok (.iload_n 1, 1) := by decide +kernel
theorem dX3_come_2 : decode cX3_come 2 = .ok (.putfield 31, 3) := by decide +kernel
theorem dX3_come_5 : decode cX3_come 5 = .ok (.aload_n 0, 1) := by decide +kernel
theorem dX3_come_6 : decode cX3_come 6 = .ok (.iconst 0, 1) := by decide +kernel
theorem dX3_come_7 : decode cX3_come 7 = .ok (.putfield 38, 3) := by decide +kernel
theorem dX3_come_10 : decode cX3_come 10 = .ok (.aload_n 0, 1) := by decide +kernel
theorem dX3_come_11 : decode cX3_come 11 = .ok (.dup, 1) := by decide +kernel
theorem dX3_come_12 : decode cX3_come 12 = .ok (.getfield 35, 3) := by decide +kernel
theorem dX3_come_15 : decode cX3_come 15 = .ok (.iconst 1, 1) := by decide +kernel
theorem dX3_come_16 : decode cX3_come 16 = .ok (.iadd, 1) := by decide +kernel
theorem dX3_come_17 : decode cX3_come 17 = .ok (.putfield 35, 3) := by decide +kernel
theorem dX3_come_20 : decode cX3_come 20 = .ok (.iload_n 1, 1) := by decide +kernel
theorem dX3_come_21 : decode cX3_come 21 = .ok (.iconst 3, 1) := by decide +kernel
theorem dX3_come_22 : decode cX3_come 22 = .ok (.if_icmp .ne 27, 3) := by decide +kernel
theorem dX3_come_25 : decode cX3_come 25 = .ok (.iconst 0, 1) := by decide +kernel
theorem dX3_come_26 : decode cX3_come 26 = .ok (.istore_n 2, 1) := by decide +kernel
theorem dX3_come_27 : decode cX3_come 27 = .ok (.iload_n 2, 1) := by decide +kernel
theorem dX3_come_28 : decode cX3_come 28 = .ok (.bipush 8, 2) := by decide +kernel
theorem dX3_come_30 : decode cX3_come 30 = .ok (.if_icmp .ge 16, 3) := by decide +kernel
theorem dX3_come_33 : decode cX3_come 33 = .ok (.aload_n 0, 1) := by decide +kernel
theorem dX3_come_34 : decode cX3_come 34 = .ok (.getfield 25, 3) := by decide +kernel
theorem dX3_come_37 : decode cX3_come 37 = .ok (.iload_n 2, 1) := by decide +kernel
theorem dX3_come_38 : decode cX3_come 38 = .ok (.iconst 0, 1) := by decide +kernel
theorem dX3_come_39 : decode cX3_come 39 = .ok (.iastore, 1) := by decide +kernel
theorem dX3_come_40 : decode cX3_come 40 = .ok (.iinc 2 1, 3) := by decide +kernel
theorem dX3_come_43 : decode cX3_come 43 = .ok (.goto (-16), 3) := by decide +kernel
theorem dX3_come_46 : decode cX3_come 46 = .ok (.goto 63, 3) := by decide +kernel
theorem dX3_come_49 : decode cX3_come 49 = .ok (.iload_n 1, 1) := by decide +kernel
theorem dX3_come_50 : decode cX3_come 50 = .ok (.iconst 4, 1) := by decide +kernel
theorem dX3_come_51 : decode cX3_come 51 = .ok (.if_icmp .ne 13, 3) := by decide +kernel
theorem dX3_come_54 : decode cX3_come 54 = .ok (.aload_n 0, 1) := by decide +kernel
theorem dX3_come_55 : decode cX3_come 55 = .ok (.getfield 12, 3) := by decide +kernel
theorem dX3_come_58 : decode cX3_come 58 = .ok (.invokevirtual 125, 3) := by decide +kernel
theorem dX3_come_61 : decode cX3_come 61 = .ok (.goto 48, 3) := by decide +kernel
theorem dX3_come_64 : decode cX3_come 64 = .ok (.iload_n 1, 1) := by decide +kernel
theorem dX3_come_65 : decode cX3_come 65 = .ok (.bipush 7, 2) := by decide +kernel
theorem dX3_come_67 : decode cX3_come 67 = .ok (.if_icmp .ne 42, 3) := by decide +kernel
theorem dX3_come_70 : decode cX3_come 70 = .ok (.aload_n 0, 1) := by decide +kernel
theorem dX3_come_71 : decode cX3_come 71 = .ok (.iconst 0, 1) := by decide +kernel
theorem dX3_come_72 : decode cX3_come 72 = .ok (.putfield 53, 3) := by decide +kernel
theorem dX3_come_75 : decode cX3_come 75 = .ok (.aload_n 0, 1) := by decide +kernel
theorem dX3_come_76 : decode cX3_come 76 = .ok (.iconst 0, 1) := by decide +kernel
theorem dX3_come_77 : decode cX3_come 77 = .ok (.putfield 56, 3) := by decide +kernel
theorem dX3_come_80 : decode cX3_come 80 = .ok (.aload_n 0, 1) := by decide +kernel
theorem dX3_come_81 : decode cX3_come 81 = .ok (.iconst 0, 1) := by decide +kernel
theorem dX3_come_82 : decode cX3_come 82 = .ok (.putfield 62, 3) := by decide +kernel
theorem dX3_come_85 : decode cX3_come 85 = .ok (.aload_n 0, 1) := by decide +kernel
theorem dX3_come_86 : decode cX3_come 86 = .ok (.getfield 21, 3) := by decide +kernel
theorem dX3_come_89 : decode cX3_come 89 = .ok (.aload_n 0, 1) := by decide +kernel
theorem dX3_come_90 : decode cX3_come 90 = .ok (.getfield 21, 3) := by decide +kernel
theorem dX3_come_93 : decode cX3_come 93 = .ok (.getfield 91, 3) := by decide +kernel
theorem dX3_come_96 : decode cX3_come 96 = .ok (.putfield 88, 3) := by decide +kernel
theorem dX3_come_99 : decode cX3_come 99 = .ok (.aload_n 0, 1) := by decide +kernel
theorem dX3_come_100 : decode cX3_come 100 = .ok (.dup, 1) := by decide +kernel
theorem dX3_come_101 : decode cX3_come 101 = .ok (.getfield 71, 3) := by decide +kernel
theorem dX3_come_104 : decode cX3_come 104 = .ok (.iconst 1, 1) := by decide +kernel
theorem dX3_come_105 : decode cX3_come 105 = .ok (.iadd, 1) := by decide +kernel
theorem dX3_come_106 : decode cX3_come 106 = .ok (.putfield 71, 3) := by decide +kernel
theorem dX3_come_109 : decode cX3_come 109 = .ok (.return_, 1) := by decide +kernel
set_option maxRecDepth 20000 in
theorem ggX3_surrender_X3_come : GoodIn wsX3_surrender wsX3_come := goodIn_r _ [9, 1, 2, 10, 11, 12, 13, 14, 15, 16, 17, 18, 19, 20, 21, 22, 23, 24, 25, 26, 27, 28, 29, 30, 31, 32, 33, 34, 35, 36, 37, 38, 39, 40, 41, 42, 43, 44, 45, 46, 47, 48, 49, 50, 51, 52, 53, 54, 55] (by decide +kernel) (by decide +kernel)
set_option maxRecDepth 20000 in
theorem gX3_surrender_X3_come : GoodIn wsX3_surrender (wsV RX3 128 RX3 yX3_come wsX3_come) := goodIn_app (goodIn_of _ (by decide +kernel)) ggX3_surrender_X3_come
theorem dX3_surrender_0 : decode cX3_surrender 0 = .ok (.aload_n 0, 1) := by decide +kernel
theorem dX3_surrender_1 : decode cX3_surrender 1 = .ok (.getfield 31, 3) := by decide +kernel
theorem dX3_surrender_4 : decode cX3_surrender 4 = .ok (.bipush 7, 2) := by decide +kernel
theorem dX3_surrender_6 : decode cX3_surrender 6 = .ok (.if_icmp .ne 7, 3) := by decide +kernel
theorem dX3_surrender_9 : decode cX3_surrender 9 = .ok (.iconst 1, 1) := by decide +kernel
theorem dX3_surrender_10 : decode cX3_surrender 10 = .ok (.goto 4, 3) := by decide +kernel
theorem dX3_surrender_13 : decode cX3_surrender 13 = .ok (.iconst 0, 1) := by decide +kernel
theorem dX3_surrender_14 : decode cX3_surrender 14 = .ok (.istore_n 1, 1) := by decide +kernel
theorem dX3_surrender_15 : decode cX3_surrender 15 = .ok (.aload_n 0, 1) := by decide +kernel
theorem dX3_surrender_16 : decode cX3_surrender 16 = .ok (.getfield 31, 3) := by decide +kernel
theorem dX3_surrender_19 : decode cX3_surrender 19 = .ok (.ifCond .eq 20, 3) := by decide +kernel
theorem dX3_surrender_22 : decode cX3_surrender 22 = .ok (.iload_n 1, 1) := by decide +kernel
theorem dX3_surrender_23 : decode cX3_surrender 23 = .ok (.ifCond .ne 16, 3) := by decide +kernel
theorem dX3_surrender_26 : decode cX3_surrender 26 = .ok (.aload_n 0, 1) := by decide +kernel
theorem dX3_surrender_27 : decode cX3_surrender 27 = .ok (.getfield 38, 3) := by decide +kernel
theorem dX3_surrender_30 : decode cX3_surrender 30 = .ok (.bipush 60, 2) := by decide +kernel
theorem dX3_surrender_32 : decode cX3_surrender 32 = .ok (.if_icmp .lt 7, 3) := by decide +kernel
theorem dX3_surrender_35 : decode cX3_surrender 35 = .ok (.iconst 1, 1) := by decide +kernel
theorem dX3_surrender_36 : decode cX3_surrender 36 = .ok (.goto 4, 3) := by decide +kernel
theorem dX3_surrender_39 : decode cX3_surrender 39 = .ok (.iconst 0, 1) := by decide +kernel
theorem dX3_surrender_40 : decode cX3_surrender 40 = .ok (.istore_n 2, 1) := by decide +kernel
theorem dX3_surrender_41 : decode cX3_surrender 41 = .ok (.iload_n 2, 1) := by decide +kernel
theorem dX3_surrender_42 : decode cX3_surrender 42 = .ok (.ifCond .ne 16, 3) := by decide +kernel
theorem dX3_surrender_45 : decode cX3_surrender 45 = .ok (.iload_n 1, 1) := by decide +kernel
theorem dX3_surrender_46 : decode cX3_surrender 46 = .ok (.ifCond .eq 27, 3) := by decide +kernel
theorem dX3_surrender_49 : decode cX3_surrender 49 = .ok (.aload_n 0, 1) := by decide +kernel
theorem dX3_surrender_50 : decode cX3_surrender 50 = .ok (.getfield 41, 3) := by decide +kernel
theorem dX3_surrender_53 : decode cX3_surrender 53 = .ok (.bipush 16, 2) := by decide +kernel
theorem dX3_surrender_55 : decode cX3_surrender 55 = .ok (.if_icmp .lt 18, 3) := by decide +kernel
theorem dX3_surrender_58 : decode cX3_surrender 58 = .ok (.aload_n 0, 1) := by decide +kernel
theorem dX3_surrender_59 : decode cX3_surrender 59 = .ok (.dup, 1) := by decide +kernel
theorem dX3_surrender_60 : decode cX3_surrender 60 = .ok (.getfield 65, 3) := by decide +kernel
theorem dX3_surrender_63 : decode cX3_surrender 63 = .ok (.iconst 1, 1) := by decide +kernel
theorem dX3_surrender_64 : decode cX3_surrender 64 = .ok (.iadd, 1) := by decide +kernel
theorem dX3_surrender_65 : decode cX3_surrender 65 = .ok (.putfield 65, 3) := by decide +kernel
theorem dX3_surrender_68 : decode cX3_surrender 68 = .ok (.aload_n 0, 1) := by decide +kernel
theorem dX3_surrender_69 : decode cX3_surrender 69 = .ok (.iconst 0, 1) := by decide +kernel
theorem dX3_surrender_70 : decode cX3_surrender 70 = .ok (.invokevirtual 128, 3) := by decide +kernel
theorem dX3_surrender_73 : decode cX3_surrender 73 = .ok (.return_, 1) := by decide +kernel
set_option maxRecDepth 20000 in
theorem ggX3_hear_X7_sort : GoodIn wsX3_hear wsX7_sort := goodIn_r _ [7, 8, 115, 116, 117, 118, 119, 120, 121, 122] (by decide +kernel) (by decide +kernel)
set_option maxRecDepth 20000 in
theorem gX3_hear_X7_sort : GoodIn wsX3_hear (wsV RX3 113 RX7 yX7_sort wsX7_sort) := goodIn_app (goodIn_of _ (by decide +kernel)) ggX3_hear_X7_sort
set_option maxRecDepth 20000 in
theorem ggX3_hear_X3_come : GoodIn wsX3_hear wsX3_come := goodIn_r _ [13, 2, 14, 15, 16, 17, 18, 19, 20, 21, 22, 23, 24, 25, 26, 27, 28, 29, 30, 95, 96, 97, 98, 99, 100, 101, 102, 103, 104, 105, 106, 107, 108, 109, 110, 111, 112, 113, 114, 123, 124, 125, 126, 127, 128, 129, 130, 131, 132] (by decide +kernel) (by decide +kernel)
set_option maxRecDepth 20000 in
theorem gX3_hear_X3_come : GoodIn wsX3_hear (wsV RX3 128 RX3 yX3_come wsX3_come) := goodIn_app (goodIn_of _ (by decide +kernel)) ggX3_hear_X3_come
set_option maxRecDepth 20000 in
theorem ggX3_hear_X7_first : GoodIn wsX3_hear wsX7_first := goodIn_r _ [34, 8, 115, 116, 117, 118, 119, 120, 121, 122] (by decide +kernel) (by decide +kernel)
set_option maxRecDepth 20000 in
theorem gX3_hear_X7_first : GoodIn wsX3_hear (wsV RX3 133 RX7 yX7_first wsX7_first) := goodIn_app (goodIn_of _ (by decide +kernel)) ggX3_hear_X7_first
set_option maxRecDepth 20000 in
theorem ggX3_hear_X3_note : GoodIn wsX3_hear wsX3_note := goodIn_r _ [38, 16, 1, 39, 95, 96, 97, 98, 99, 100, 101, 102, 103, 104, 105, 106, 107, 108, 109, 110, 111, 112, 113, 114, 115, 116, 117, 118, 119, 120, 121, 122] (by decide +kernel) (by decide +kernel)
set_option maxRecDepth 20000 in
theorem gX3_hear_X3_note : GoodIn wsX3_hear (wsV RX3 136 RX3 yX3_note wsX3_note) := goodIn_app (goodIn_of _ (by decide +kernel)) ggX3_hear_X3_note
set_option maxRecDepth 20000 in
theorem ggX3_hear_X3_hearInBargain : GoodIn wsX3_hear wsX3_hearInBargain := goodIn_r _ [43, 1, 44, 45, 46, 47, 48, 49, 50, 51, 12, 52, 53, 3, 4, 5, 6, 7, 8, 31, 32, 33, 34, 54, 55, 56, 57, 58, 59, 60, 61, 62, 9, 10, 11, 13, 2, 14, 15, 16, 17, 18, 19, 20, 21, 22, 23, 24, 25, 26, 27, 28, 29, 30, 63, 64, 65, 66, 95, 96, 97, 98, 99, 100, 101, 102, 103, 104, 105, 106, 107, 108, 109, 110, 111, 112, 113, 114, 115, 116, 117, 118, 119, 120, 121, 122, 123, 124, 125, 126, 127, 128, 129, 130, 131, 132] (by decide +kernel) (by decide +kernel)
set_option maxRecDepth 20000 in
theorem gX3_hear_X3_hearInBargain : GoodIn wsX3_hear (wsV RX3 139 RX3 yX3_hearInBargain wsX3_hearInBargain) := goodIn_app (goodIn_of _ (by decide +kernel)) ggX3_hear_X3_hearInBargain
set_option maxRecDepth 20000 in
theorem ggX3_hear_X3_isOfRound : GoodIn wsX3_hear wsX3_isOfRound := goodIn_r _ [52, 1, 53, 3, 4, 5, 6, 7, 8, 31, 32, 33, 34, 95, 96, 97, 98, 99, 100, 101, 102, 103, 104, 105, 106, 107, 108, 109, 110, 111, 112, 113, 114, 115, 116, 117, 118, 119, 120, 121, 122] (by decide +kernel) (by decide +kernel)
set_option maxRecDepth 20000 in
theorem gX3_hear_X3_isOfRound : GoodIn wsX3_hear (wsV RX3 142 RX3 yX3_isOfRound wsX3_isOfRound) := goodIn_app (goodIn_of _ (by decide +kernel)) ggX3_hear_X3_isOfRound
set_option maxRecDepth 20000 in
theorem ggX3_hear_X3_hearGreaterRound : GoodIn wsX3_hear wsX3_hearGreaterRound := goodIn_r _ [66, 1, 53, 3, 4, 5, 6, 7, 8, 31, 32, 33, 34, 9, 10, 11, 12, 13, 2, 14, 15, 16, 17, 18, 19, 20, 21, 22, 23, 24, 25, 26, 27, 28, 29, 30, 95, 96, 97, 98, 99, 100, 101, 102, 103, 104, 105, 106, 107, 108, 109, 110, 111, 112, 113, 114, 115, 116, 117, 118, 119, 120, 121, 122, 123, 124, 125, 126, 127, 128, 129, 130, 131, 132] (by decide +kernel) (by decide +kernel)
set_option maxRecDepth 20000 in
theorem gX3_hear_X3_hearGreaterRound : GoodIn wsX3_hear (wsV RX3 146 RX3 yX3_hearGreaterRound wsX3_hearGreaterRound) := goodIn_app (goodIn_of _ (by decide +kernel)) ggX3_hear_X3_hearGreaterRound
set_option maxRecDepth 20000 in
theorem ggX3_hear_X3_hearInData : GoodIn wsX3_hear wsX3_hearInData := goodIn_r _ [70, 20, 1, 21, 3, 4, 5, 6, 7, 8, 49, 50, 51, 12, 52, 53, 31, 32, 33, 34, 71, 72, 73, 74, 75, 76, 77, 78, 79, 80, 47, 81, 82, 55, 56, 57, 83, 84, 85, 86, 87, 88, 89, 90, 91, 92, 93, 94, 63, 64, 65, 66, 9, 10, 11, 13, 2, 14, 15, 16, 17, 18, 19, 22, 23, 24, 25, 26, 27, 28, 29, 30, 95, 96, 97, 98, 99, 100, 101, 102, 103, 104, 105, 106, 107, 108, 109, 110, 111, 112, 113, 114, 115, 116, 117, 118, 119, 120, 121, 122, 123, 124, 125, 126, 127, 128, 129, 130, 131, 132] (by decide +kernel) (by decide +kernel)
set_option maxRecDepth 20000 in
theorem gX3_hear_X3_hearInData : GoodIn wsX3_hear (wsV RX3 149 RX3 yX3_hearInData wsX3_hearInData) := goodIn_app (goodIn_of _ (by decide +kernel)) ggX3_hear_X3_hearInData
theorem dX3_hear_0 : decode cX3_hear 0 = .ok (.aload_n 0, 1) := by decide +kernel
theorem dX3_hear_1 : decode cX3_hear 1 = .ok (.getfield 78, 3) := by decide +kernel
theorem dX3_hear_4 : decode cX3_hear 4 = .ok (.invokevirtual 113, 3) := by decide +kernel
theorem dX3_hear_7 : decode cX3_hear 7 = .ok (.istore_n 1, 1) := by decide +kernel
theorem dX3_hear_8 : decode cX3_hear 8 = .ok (.aload_n 0, 1) := by decide +kernel
theorem dX3_hear_9 : decode cX3_hear 9 = .ok (.getfield 31, 3) := by decide +kernel
theorem dX3_hear_12 : decode cX3_hear 12 = .ok (.tableswitch 165 0 7 #[48, 61, 74, 98, 165, 117, 124, 158], 48) := by decide +kernel
theorem dX3_hear_60 : decode cX3_hear 60 = .ok (.iload_n 1, 1) := by decide +kernel
theorem dX3_hear_61 : decode cX3_hear 61 = .ok (.iconst 1, 1) := by decide +kernel
theorem dX3_hear_62 : decode cX3_hear 62 = .ok (.if_icmp .ne 115, 3) := by decide +kernel
theorem dX3_hear_65 : decode cX3_hear 65 = .ok (.aload_n 0, 1) := by decide +kernel
theorem dX3_hear_66 : decode cX3_hear 66 = .ok (.iconst 2, 1) := by decide +kernel
theorem dX3_hear_67 : decode cX3_hear 67 = .ok (.invokevirtual 128, 3) := by decide +kernel
theorem dX3_hear_70 : decode cX3_hear 70 = .ok (.goto 107, 3) := by decide +kernel
theorem dX3_hear_73 : decode cX3_hear 73 = .ok (.iload_n 1, 1) := by decide +kernel
theorem dX3_hear_74 : decode cX3_hear 74 = .ok (.iconst 2, 1) := by decide +kernel
theorem dX3_hear_75 : decode cX3_hear 75 = .ok (.if_icmp .ne 102, 3) := by decide +kernel
theorem dX3_hear_78 : decode cX3_hear 78 = .ok (.aload_n 0, 1) := by decide +kernel
theorem dX3_hear_79 : decode cX3_hear 79 = .ok (.iconst 3, 1) := by decide +kernel
theorem dX3_hear_80 : decode cX3_hear 80 = .ok (.invokevirtual 128, 3) := by decide +kernel
theorem dX3_hear_83 : decode cX3_hear 83 = .ok (.goto 94, 3) := by decide +kernel
theorem dX3_hear_86 : decode cX3_hear 86 = .ok (.iload_n 1, 1) := by decide +kernel
theorem dX3_hear_87 : decode cX3_hear 87 = .ok (.iconst 3, 1) := by decide +kernel
theorem dX3_hear_88 : decode cX3_hear 88 = .ok (.if_icmp .ne 89, 3) := by decide +kernel
theorem dX3_hear_91 : decode cX3_hear 91 = .ok (.aload_n 0, 1) := by decide +kernel
theorem dX3_hear_92 : decode cX3_hear 92 = .ok (.iconst 3, 1) := by decide +kernel
theorem dX3_hear_93 : decode cX3_hear 93 = .ok (.invokevirtual 128, 3) := by decide +kernel
theorem dX3_hear_96 : decode cX3_hear 96 = .ok (.aload_n 0, 1) := by decide +kernel
theorem dX3_hear_97 : decode cX3_hear 97 = .ok (.aload_n 0, 1) := by decide +kernel
theorem dX3_hear_98 : decode cX3_hear 98 = .ok (.getfield 78, 3) := by decide +kernel
theorem dX3_hear_101 : decode cX3_hear 101 = .ok (.invokevirtual 133, 3) := by decide +kernel
theorem dX3_hear_104 : decode cX3_hear 104 = .ok (.invokevirtual 136, 3) := by decide +kernel
theorem dX3_hear_107 : decode cX3_hear 107 = .ok (.goto 70, 3) := by decide +kernel
theorem dX3_hear_110 : decode cX3_hear 110 = .ok (.iload_n 1, 1) := by decide +kernel
theorem dX3_hear_111 : decode cX3_hear 111 = .ok (.iconst 3, 1) := by decide +kernel
theorem dX3_hear_112 : decode cX3_hear 112 = .ok (.if_icmp .ne 65, 3) := by decide +kernel
theorem dX3_hear_115 : decode cX3_hear 115 = .ok (.aload_n 0, 1) := by decide +kernel
theorem dX3_hear_116 : decode cX3_hear 116 = .ok (.aload_n 0, 1) := by decide +kernel
theorem dX3_hear_117 : decode cX3_hear 117 = .ok (.getfield 78, 3) := by decide +kernel
theorem dX3_hear_120 : decode cX3_hear 120 = .ok (.invokevirtual 133, 3) := by decide +kernel
theorem dX3_hear_123 : decode cX3_hear 123 = .ok (.invokevirtual 136, 3) := by decide +kernel
theorem dX3_hear_126 : decode cX3_hear 126 = .ok (.goto 51, 3) := by decide +kernel
theorem dX3_hear_129 : decode cX3_hear 129 = .ok (.aload_n 0, 1) := by decide +kernel
theorem dX3_hear_130 : decode cX3_hear 130 = .ok (.invokevirtual 139, 3) := by decide +kernel
theorem dX3_hear_133 : decode cX3_hear 133 = .ok (.goto 44, 3) := by decide +kernel
theorem dX3_hear_136 : decode cX3_hear 136 = .ok (.aload_n 0, 1) := by decide +kernel
theorem dX3_hear_137 : decode cX3_hear 137 = .ok (.bipush 6, 2) := by decide +kernel
theorem dX3_hear_139 : decode cX3_hear 139 = .ok (.invokevirtual 142, 3) := by decide +kernel
theorem dX3_hear_142 : decode cX3_hear 142 = .ok (.ifCond .ne 12, 3) := by decide +kernel
theorem dX3_hear_145 : decode cX3_hear 145 = .ok (.aload_n 0, 1) := by decide +kernel
theorem dX3_hear_146 : decode cX3_hear 146 = .ok (.bipush 7, 2) := by decide +kernel
theorem dX3_hear_148 : decode cX3_hear 148 = .ok (.invokevirtual 142, 3) := by decide +kernel
theorem dX3_hear_151 : decode cX3_hear 151 = .ok (.ifCond .eq 12, 3) := by decide +kernel
theorem dX3_hear_154 : decode cX3_hear 154 = .ok (.aload_n 0, 1) := by decide +kernel
theorem dX3_hear_155 : decode cX3_hear 155 = .ok (.bipush 7, 2) := by decide +kernel
theorem dX3_hear_157 : decode cX3_hear 157 = .ok (.invokevirtual 128, 3) := by decide +kernel
theorem dX3_hear_160 : decode cX3_hear 160 = .ok (.goto 17, 3) := by decide +kernel
theorem dX3_hear_163 : decode cX3_hear 163 = .ok (.aload_n 0, 1) := by decide +kernel
theorem dX3_hear_164 : decode cX3_hear 164 = .ok (.invokevirtual 146, 3) := by decide +kernel
theorem dX3_hear_167 : decode cX3_hear 167 = .ok (.goto 10, 3) := by decide +kernel
theorem dX3_hear_170 : decode cX3_hear 170 = .ok (.aload_n 0, 1) := by decide +kernel
theorem dX3_hear_171 : decode cX3_hear 171 = .ok (.invokevirtual 149, 3) := by decide +kernel
theorem dX3_hear_174 : decode cX3_hear 174 = .ok (.goto 3, 3) := by decide +kernel
theorem dX3_hear_177 : decode cX3_hear 177 = .ok (.return_, 1) := by decide +kernel
theorem dX3_note_0 : decode cX3_note 0 = .ok (.iload_n 1, 1) := by decide +kernel
theorem dX3_note_1 : decode cX3_note 1 = .ok (.ifCond .lt 24, 3) := by decide +kernel
theorem dX3_note_4 : decode cX3_note 4 = .ok (.iload_n 1, 1) := by decide +kernel
theorem dX3_note_5 : decode cX3_note 5 = .ok (.bipush 8, 2) := by decide +kernel
theorem dX3_note_7 : decode cX3_note 7 = .ok (.if_icmp .ge 18, 3) := by decide +kernel
theorem dX3_note_10 : decode cX3_note 10 = .ok (.aload_n 0, 1) := by decide +kernel
theorem dX3_note_11 : decode cX3_note 11 = .ok (.getfield 25, 3) := by decide +kernel
theorem dX3_note_14 : decode cX3_note 14 = .ok (.iload_n 1, 1) := by decide +kernel
theorem dX3_note_15 : decode cX3_note 15 = .ok (.aload_n 0, 1) := by decide +kernel
theorem dX3_note_16 : decode cX3_note 16 = .ok (.getfield 78, 3) := by decide +kernel
theorem dX3_note_19 : decode cX3_note 19 = .ok (.getfield 152, 3) := by decide +kernel
theorem dX3_note_22 : decode cX3_note 22 = .ok (.iload_n 1, 1) := by decide +kernel
theorem dX3_note_23 : decode cX3_note 23 = .ok (.iaload, 1) := by decide +kernel
theorem dX3_note_24 : decode cX3_note 24 = .ok (.iastore, 1) := by decide +kernel
theorem dX3_note_25 : decode cX3_note 25 = .ok (.return_, 1) := by decide +kernel
set_option maxRecDepth 20000 in
theorem ggX3_isOfRound_X7_sort : GoodIn wsX3_isOfRound wsX7_sort := goodIn_r _ [7, 8, 33, 34, 35, 36, 37, 38, 39, 40] (by decide +kernel) (by decide +kernel)
set_option maxRecDepth 20000 in
theorem gX3_isOfRound_X7_sort : GoodIn wsX3_isOfRound (wsV RX3 113 RX7 yX7_sort wsX7_sort) := goodIn_app (goodIn_of _ (by decide +kernel)) ggX3_isOfRound_X7_sort
set_option maxRecDepth 20000 in
theorem ggX3_isOfRound_X7_first : GoodIn wsX3_isOfRound wsX7_first := goodIn_r _ [12, 8, 33, 34, 35, 36, 37, 38, 39, 40] (by decide +kernel) (by decide +kernel)
set_option maxRecDepth 20000 in
theorem gX3_isOfRound_X7_first : GoodIn wsX3_isOfRound (wsV RX3 133 RX7 yX7_first wsX7_first) := goodIn_app (goodIn_of _ (by decide +kernel)) ggX3_isOfRound_X7_first
theorem dX3_isOfRound_0 : decode cX3_isOfRound 0 = .ok (.aload_n 0, 1) := by decide +kernel
theorem dX3_isOfRound_1 : decode cX3_isOfRound 1 = .ok (.getfield 78, 3) := by decide +kernel
theorem dX3_isOfRound_4 : decode cX3_isOfRound 4 = .ok (.invokevirtual 113, 3) := by decide +kernel
theorem dX3_isOfRound_7 : decode cX3_isOfRound 7 = .ok (.iload_n 1, 1) := by decide +kernel
theorem dX3_isOfRound_8 : decode cX3_isOfRound 8 = .ok (.if_icmp .ne 21, 3) := by decide +kernel
theorem dX3_isOfRound_11 : decode cX3_isOfRound 11 = .ok (.aload_n 0, 1) := by decide +kernel
theorem dX3_isOfRound_12 : decode cX3_isOfRound 12 = .ok (.getfield 78, 3) := by decide +kernel
theorem dX3_isOfRound_15 : decode cX3_isOfRound 15 = .ok (.invokevirtual 133, 3) := by decide +kernel
theorem dX3_isOfRound_18 : decode cX3_isOfRound 18 = .ok (.aload_n 0, 1) := by decide +kernel
theorem dX3_isOfRound_19 : decode cX3_isOfRound 19 = .ok (.getfield 44, 3) := by decide +kernel
theorem dX3_isOfRound_22 : decode cX3_isOfRound 22 = .ok (.if_icmp .ne 7, 3) := by decide +kernel
theorem dX3_isOfRound_25 : decode cX3_isOfRound 25 = .ok (.iconst 1, 1) := by decide +kernel
theorem dX3_isOfRound_26 : decode cX3_isOfRound 26 = .ok (.goto 4, 3) := by decide +kernel
theorem dX3_isOfRound_29 : decode cX3_isOfRound 29 = .ok (.iconst 0, 1) := by decide +kernel
theorem dX3_isOfRound_30 : decode cX3_isOfRound 30 = .ok (.ireturn, 1) := by decide +kernel
set_option maxRecDepth 20000 in
theorem ggX3_hearGreaterRound_X7_sort : GoodIn wsX3_hearGreaterRound wsX7_sort := goodIn_r _ [7, 8, 56, 57, 58, 59, 60, 61, 62, 63] (by decide +kernel) (by decide +kernel)
set_option maxRecDepth 20000 in
theorem gX3_hearGreaterRound_X7_sort : GoodIn wsX3_hearGreaterRound (wsV RX3 113 RX7 yX7_sort wsX7_sort) := goodIn_app (goodIn_of _ (by decide +kernel)) ggX3_hearGreaterRound_X7_sort
set_option maxRecDepth 20000 in
theorem ggX3_hearGreaterRound_X7_first : GoodIn wsX3_hearGreaterRound wsX7_first := goodIn_r _ [12, 8, 56, 57, 58, 59, 60, 61, 62, 63] (by decide +kernel) (by decide +kernel)
set_option maxRecDepth 20000 in
theorem gX3_hearGreaterRound_X7_first : GoodIn wsX3_hearGreaterRound (wsV RX3 133 RX7 yX7_first wsX7_first) := goodIn_app (goodIn_of _ (by decide +kernel)) ggX3_hearGreaterRound_X7_first
set_option maxRecDepth 20000 in
theorem ggX3_hearGreaterRound_X3_come : GoodIn wsX3_hearGreaterRound wsX3_come := goodIn_r _ [17, 18, 19, 20, 21, 22, 23, 24, 25, 26, 27, 28, 29, 30, 31, 32, 33, 34, 35, 36, 37, 38, 39, 40, 41, 42, 43, 44, 45, 46, 47, 48, 49, 50, 51, 52, 53, 54, 55, 64, 65, 66, 67, 68, 69, 70, 71, 72, 73] (by decide +kernel) (by decide +kernel)
set_option maxRecDepth 20000 in
theorem gX3_hearGreaterRound_X3_come : GoodIn wsX3_hearGreaterRound (wsV RX3 128 RX3 yX3_come wsX3_come) := goodIn_app (goodIn_of _ (by decide +kernel)) ggX3_hearGreaterRound_X3_come
theorem dX3_hearGreaterRound_0 : decode cX3_hearGreaterRound 0 = .ok (.aload_n 0, 1) := by decide +kernel
theorem dX3_hearGreaterRound_1 : decode cX3_hearGreaterRound 1 = .ok (.getfield 78, 3) := by decide +kernel
theorem dX3_hearGreaterRound_4 : decode cX3_hearGreaterRound 4 = .ok (.invokevirtual 113, 3) := by decide +kernel
theorem dX3_hearGreaterRound_7 : decode cX3_hearGreaterRound 7 = .ok (.iconst 5, 1) := by decide +kernel
theorem dX3_hearGreaterRound_8 : decode cX3_hearGreaterRound 8 = .ok (.if_icmp .ne 33, 3) := by decide +kernel
theorem dX3_hearGreaterRound_11 : decode cX3_hearGreaterRound 11 = .ok (.aload_n 0, 1) := by decide +kernel
theorem dX3_hearGreaterRound_12 : decode cX3_hearGreaterRound 12 = .ok (.getfield 78, 3) := by decide +kernel
theorem dX3_hearGreaterRound_15 : decode cX3_hearGreaterRound 15 = .ok (.invokevirtual 133, 3) := by decide +kernel
theorem dX3_hearGreaterRound_18 : decode cX3_hearGreaterRound 18 = .ok (.aload_n 0, 1) := by decide +kernel
theorem dX3_hearGreaterRound_19 : decode cX3_hearGreaterRound 19 = .ok (.getfield 44, 3) := by decide +kernel
theorem dX3_hearGreaterRound_22 : decode cX3_hearGreaterRound 22 = .ok (.if_icmp .le 19, 3) := by decide +kernel
theorem dX3_hearGreaterRound_25 : decode cX3_hearGreaterRound 25 = .ok (.aload_n 0, 1) := by decide +kernel
theorem dX3_hearGreaterRound_26 : decode cX3_hearGreaterRound 26 = .ok (.aload_n 0, 1) := by decide +kernel
theorem dX3_hearGreaterRound_27 : decode cX3_hearGreaterRound 27 = .ok (.getfield 78, 3) := by decide +kernel
theorem dX3_hearGreaterRound_30 : decode cX3_hearGreaterRound 30 = .ok (.invokevirtual 133, 3) := by decide +kernel
theorem dX3_hearGreaterRound_33 : decode cX3_hearGreaterRound 33 = .ok (.putfield 44, 3) := by decide +kernel
theorem dX3_hearGreaterRound_36 : decode cX3_hearGreaterRound 36 = .ok (.aload_n 0, 1) := by decide +kernel
theorem dX3_hearGreaterRound_37 : decode cX3_hearGreaterRound 37 = .ok (.iconst 5, 1) := by decide +kernel
theorem dX3_hearGreaterRound_38 : decode cX3_hearGreaterRound 38 = .ok (.invokevirtual 128, 3) := by decide +kernel
theorem dX3_hearGreaterRound_41 : decode cX3_hearGreaterRound 41 = .ok (.return_, 1) := by decide +kernel
set_option maxRecDepth 20000 in
theorem ggX3_hearInBargain_X3_isOfRound : GoodIn wsX3_hearInBargain wsX3_isOfRound := goodIn_r _ [11, 1, 12, 13, 14, 15, 16, 17, 18, 19, 20, 21, 22, 58, 59, 60, 61, 62, 63, 64, 65, 66, 67, 68, 69, 70, 71, 72, 73, 74, 75, 76, 77, 78, 79, 80, 81, 82, 83, 84, 85] (by decide +kernel) (by decide +kernel)
set_option maxRecDepth 20000 in
theorem gX3_hearInBargain_X3_isOfRound : GoodIn wsX3_hearInBargain (wsV RX3 142 RX3 yX3_isOfRound wsX3_isOfRound) := goodIn_app (goodIn_of _ (by decide +kernel)) ggX3_hearInBargain_X3_isOfRound
set_option maxRecDepth 20000 in
theorem ggX3_hearInBargain_X7_second : GoodIn wsX3_hearInBargain wsX7_second := goodIn_r _ [26, 18, 78, 79, 80, 81, 82, 83, 84, 85] (by decide +kernel) (by decide +kernel)
set_option maxRecDepth 20000 in
theorem gX3_hearInBargain_X7_second : GoodIn wsX3_hearInBargain (wsV RX3 155 RX7 yX7_second wsX7_second) := goodIn_app (goodIn_of _ (by decide +kernel)) ggX3_hearInBargain_X7_second
set_option maxRecDepth 20000 in
theorem ggX3_hearInBargain_X3_settle : GoodIn wsX3_hearInBargain wsX3_settle := goodIn_r _ [30, 31, 32, 33, 34, 10, 35, 36, 37, 38, 39, 40, 41, 42, 43, 44, 45, 46, 47, 48, 49, 50, 51, 52, 53, 58, 59, 60, 61, 62, 63, 64, 65, 66, 67, 68, 69, 70, 71, 72, 73, 74, 75, 76, 77, 86, 87, 88, 89, 90, 91, 92, 93, 94, 95] (by decide +kernel) (by decide +kernel)
set_option maxRecDepth 20000 in
theorem gX3_hearInBargain_X3_settle : GoodIn wsX3_hearInBargain (wsV RX3 164 RX3 yX3_settle wsX3_settle) := goodIn_app (goodIn_of _ (by decide +kernel)) ggX3_hearInBargain_X3_settle
set_option maxRecDepth 20000 in
theorem ggX3_hearInBargain_X3_hearGreaterRound : GoodIn wsX3_hearInBargain wsX3_hearGreaterRound := goodIn_r _ [57, 1, 12, 13, 14, 15, 16, 17, 18, 19, 20, 21, 22, 32, 33, 34, 10, 35, 36, 37, 38, 39, 40, 41, 42, 43, 44, 45, 46, 47, 48, 49, 50, 51, 52, 53, 58, 59, 60, 61, 62, 63, 64, 65, 66, 67, 68, 69, 70, 71, 72, 73, 74, 75, 76, 77, 78, 79, 80, 81, 82, 83, 84, 85, 86, 87, 88, 89, 90, 91, 92, 93, 94, 95] (by decide +kernel) (by decide +kernel)
set_option maxRecDepth 20000 in
theorem gX3_hearInBargain_X3_hearGreaterRound : GoodIn wsX3_hearInBargain (wsV RX3 146 RX3 yX3_hearGreaterRound wsX3_hearGreaterRound) := goodIn_app (goodIn_of _ (by decide +kernel)) ggX3_hearInBargain_X3_hearGreaterRound
theorem dX3_hearInBargain_0 : decode cX3_hearInBargain 0 = .ok (.aload_n 0, 1) := by decide +kernel
theorem dX3_hearInBargain_1 : decode cX3_hearInBargain 1 = .ok (.iconst 5, 1) := by decide +kernel
theorem dX3_hearInBargain_2 : decode cX3_hearInBargain 2 = .ok (.invokevirtual 142, 3) := by decide +kernel
theorem dX3_hearInBargain_5 : decode cX3_hearInBargain 5 = .ok (.ifCond .eq 24, 3) := by decide +kernel
theorem dX3_hearInBargain_8 : decode cX3_hearInBargain 8 = .ok (.aload_n 0, 1) := by decide +kernel
theorem dX3_hearInBargain_9 : decode cX3_hearInBargain 9 = .ok (.aload_n 0, 1) := by decide +kernel
theorem dX3_hearInBargain_10 : decode cX3_hearInBargain 10 = .ok (.getfield 78, 3) := by decide +kernel
theorem dX3_hearInBargain_13 : decode cX3_hearInBargain 13 = .ok (.invokevirtual 155, 3) := by decide +kernel
theorem dX3_hearInBargain_16 : decode cX3_hearInBargain 16 = .ok (.aload_n 0, 1) := by decide +kernel
theorem dX3_hearInBargain_17 : decode cX3_hearInBargain 17 = .ok (.getfield 47, 3) := by decide +kernel
theorem dX3_hearInBargain_20 : decode cX3_hearInBargain 20 = .ok (.invokestatic 158, 3) := by decide +kernel
theorem dX3_hearInBargain_23 : decode cX3_hearInBargain 23 = .ok (.invokevirtual 164, 3) := by decide +kernel
theorem dX3_hearInBargain_26 : decode cX3_hearInBargain 26 = .ok (.goto 30, 3) := by decide +kernel
theorem dX3_hearInBargain_29 : decode cX3_hearInBargain 29 = .ok (.aload_n 0, 1) := by decide +kernel
theorem dX3_hearInBargain_30 : decode cX3_hearInBargain 30 = .ok (.bipush 6, 2) := by decide +kernel
theorem dX3_hearInBargain_32 : decode cX3_hearInBargain 32 = .ok (.invokevirtual 142, 3) := by decide +kernel
theorem dX3_hearInBargain_35 : decode cX3_hearInBargain 35 = .ok (.ifCond .eq 17, 3) := by decide +kernel
theorem dX3_hearInBargain_38 : decode cX3_hearInBargain 38 = .ok (.aload_n 0, 1) := by decide +kernel
theorem dX3_hearInBargain_39 : decode cX3_hearInBargain 39 = .ok (.aload_n 0, 1) := by decide +kernel
theorem dX3_hearInBargain_40 : decode cX3_hearInBargain 40 = .ok (.getfield 78, 3) := by decide +kernel
theorem dX3_hearInBargain_43 : decode cX3_hearInBargain 43 = .ok (.invokevirtual 155, 3) := by decide +kernel
theorem dX3_hearInBargain_46 : decode cX3_hearInBargain 46 = .ok (.invokevirtual 164, 3) := by decide +kernel
theorem dX3_hearInBargain_49 : decode cX3_hearInBargain 49 = .ok (.goto 7, 3) := by decide +kernel
theorem dX3_hearInBargain_52 : decode cX3_hearInBargain 52 = .ok (.aload_n 0, 1) := by decide +kernel
theorem dX3_hearInBargain_53 : decode cX3_hearInBargain 53 = .ok (.invokevirtual 146, 3) := by decide +kernel
theorem dX3_hearInBargain_56 : decode cX3_hearInBargain 56 = .ok (.return_, 1) := by decide +kernel
set_option maxRecDepth 20000 in
theorem ggX3_settle_X3_come : GoodIn wsX3_settle wsX3_come := goodIn_r _ [6, 7, 8, 9, 10, 11, 12, 13, 14, 15, 16, 17, 18, 19, 20, 21, 22, 23, 24, 25, 26, 27, 28, 29, 30, 31, 32, 33, 34, 35, 36, 37, 38, 39, 40, 41, 42, 43, 44, 45, 46, 47, 48, 49, 50, 51, 52, 53, 54] (by decide +kernel) (by decide +kernel)
set_option maxRecDepth 20000 in
theorem gX3_settle_X3_come : GoodIn wsX3_settle (wsV RX3 128 RX3 yX3_come wsX3_come) := goodIn_app (goodIn_of _ (by decide +kernel)) ggX3_settle_X3_come
theorem dX3_settle_0 : decode cX3_settle 0 = .ok (.aload_n 0, 1) := by decide +kernel
theorem dX3_settle_1 : decode cX3_settle 1 = .ok (.iload_n 1, 1) := by decide +kernel
theorem dX3_settle_2 : decode cX3_settle 2 = .ok (.putfield 50, 3) := by decide +kernel
theorem dX3_settle_5 : decode cX3_settle 5 = .ok (.aload_n 0, 1) := by decide +kernel
theorem dX3_settle_6 : decode cX3_settle 6 = .ok (.aload_n 0, 1) := by decide +kernel
theorem dX3_settle_7 : decode cX3_settle 7 = .ok (.getfield 50, 3) := by decide +kernel
theorem dX3_settle_10 : decode cX3_settle 10 = .ok (.ifCond .ne 7, 3) := by decide +kernel
theorem dX3_settle_13 : decode cX3_settle 13 = .ok (.iconst 0, 1) := by decide +kernel
theorem dX3_settle_14 : decode cX3_settle 14 = .ok (.goto 5, 3) := by decide +kernel
theorem dX3_settle_17 : decode cX3_settle 17 = .ok (.bipush 6, 2) := by decide +kernel
theorem dX3_settle_19 : decode cX3_settle 19 = .ok (.invokevirtual 128, 3) := by decide +kernel
theorem dX3_settle_22 : decode cX3_settle 22 = .ok (.return_, 1) := by decide +kernel
set_option maxRecDepth 20000 in
theorem ggX3_hearInData_X7_sort : GoodIn wsX3_hearInData wsX7_sort := goodIn_r _ [8, 9, 92, 93, 94, 95, 96, 97, 98, 99] (by decide +kernel) (by decide +kernel)
set_option maxRecDepth 20000 in
theorem gX3_hearInData_X7_sort : GoodIn wsX3_hearInData (wsV RX3 113 RX7 yX7_sort wsX7_sort) := goodIn_app (goodIn_of _ (by decide +kernel)) ggX3_hearInData_X7_sort
set_option maxRecDepth 20000 in
theorem ggX3_hearInData_X3_isOfRound : GoodIn wsX3_hearInData wsX3_isOfRound := goodIn_r _ [14, 2, 15, 4, 5, 6, 7, 8, 9, 16, 17, 18, 19, 72, 73, 74, 75, 76, 77, 78, 79, 80, 81, 82, 83, 84, 85, 86, 87, 88, 89, 90, 91, 92, 93, 94, 95, 96, 97, 98, 99] (by decide +kernel) (by decide +kernel)
set_option maxRecDepth 20000 in
theorem gX3_hearInData_X3_isOfRound : GoodIn wsX3_hearInData (wsV RX3 142 RX3 yX3_isOfRound wsX3_isOfRound) := goodIn_app (goodIn_of _ (by decide +kernel)) ggX3_hearInData_X3_isOfRound
set_option maxRecDepth 20000 in
theorem ggX3_hearInData_X2_take : GoodIn wsX3_hearInData wsX2_take := goodIn_r _ [24, 25, 26, 27, 28, 29, 30, 31, 32, 33, 34, 7, 35, 9, 36, 37, 38, 39, 40, 41, 42, 43, 44, 45, 46, 47, 100, 101, 102, 103, 104, 105, 106, 107, 92, 93, 94, 95, 96, 97, 98, 99] (by decide +kernel) (by decide +kernel)
set_option maxRecDepth 20000 in
theorem gX3_hearInData_X2_take : GoodIn wsX3_hearInData (wsV RX3 167 RX2 yX2_take wsX2_take) := goodIn_app (goodIn_of _ (by decide +kernel)) ggX3_hearInData_X2_take
set_option maxRecDepth 20000 in
theorem ggX3_hearInData_X3_hearGreaterRound : GoodIn wsX3_hearInData wsX3_hearGreaterRound := goodIn_r _ [51, 2, 15, 4, 5, 6, 7, 8, 9, 16, 17, 18, 19, 52, 53, 54, 13, 55, 56, 57, 58, 59, 60, 61, 62, 1, 3, 63, 64, 65, 66, 67, 68, 69, 70, 71, 72, 73, 74, 75, 76, 77, 78, 79, 80, 81, 82, 83, 84, 85, 86, 87, 88, 89, 90, 91, 92, 93, 94, 95, 96, 97, 98, 99, 100, 101, 102, 103, 104, 105, 106, 107, 108, 109] (by decide +kernel) (by decide +kernel)
set_option maxRecDepth 20000 in
theorem gX3_hearInData_X3_hearGreaterRound : GoodIn wsX3_hearInData (wsV RX3 146 RX3 yX3_hearGreaterRound wsX3_hearGreaterRound) := goodIn_app (goodIn_of _ (by decide +kernel)) ggX3_hearInData_X3_hearGreaterRound
theorem dX3_hearInData_0 : decode cX3_hearInData 0 = .ok (.aload_n 0, 1) := by decide +kernel
theorem dX3_hearInData_1 : decode cX3_hearInData 1 = .ok (.iconst 2, 1) := by decide +kernel
theorem dX3_hearInData_2 : decode cX3_hearInData 2 = .ok (.aload_n 0, 1) := by decide +kernel
theorem dX3_hearInData_3 : decode cX3_hearInData 3 = .ok (.getfield 62, 3) := by decide +kernel
theorem dX3_hearInData_6 : decode cX3_hearInData 6 = .ok (.imul, 1) := by decide +kernel
theorem dX3_hearInData_7 : decode cX3_hearInData 7 = .ok (.aload_n 0, 1) := by decide +kernel
theorem dX3_hearInData_8 : decode cX3_hearInData 8 = .ok (.getfield 78, 3) := by decide +kernel
theorem dX3_hearInData_11 : decode cX3_hearInData 11 = .ok (.invokevirtual 113, 3) := by decide +kernel
theorem dX3_hearInData_14 : decode cX3_hearInData 14 = .ok (.ifCond .ne 7, 3) := by decide +kernel
theorem dX3_hearInData_17 : decode cX3_hearInData 17 = .ok (.iconst 1, 1) := by decide +kernel
theorem dX3_hearInData_18 : decode cX3_hearInData 18 = .ok (.goto 4, 3) := by decide +kernel
theorem dX3_hearInData_21 : decode cX3_hearInData 21 = .ok (.iconst 0, 1) := by decide +kernel
theorem dX3_hearInData_22 : decode cX3_hearInData 22 = .ok (.iadd, 1) := by decide +kernel
theorem dX3_hearInData_23 : decode cX3_hearInData 23 = .ok (.sipush 255, 3) := by decide +kernel
theorem dX3_hearInData_26 : decode cX3_hearInData 26 = .ok (.iand, 1) := by decide +kernel
theorem dX3_hearInData_27 : decode cX3_hearInData 27 = .ok (.putfield 62, 3) := by decide +kernel
theorem dX3_hearInData_30 : decode cX3_hearInData 30 = .ok (.aload_n 0, 1) := by decide +kernel
theorem dX3_hearInData_31 : decode cX3_hearInData 31 = .ok (.bipush 7, 2) := by decide +kernel
theorem dX3_hearInData_33 : decode cX3_hearInData 33 = .ok (.invokevirtual 142, 3) := by decide +kernel
theorem dX3_hearInData_36 : decode cX3_hearInData 36 = .ok (.ifCond .eq 17, 3) := by decide +kernel
theorem dX3_hearInData_39 : decode cX3_hearInData 39 = .ok (.aload_n 0, 1) := by decide +kernel
theorem dX3_hearInData_40 : decode cX3_hearInData 40 = .ok (.getfield 21, 3) := by decide +kernel
theorem dX3_hearInData_43 : decode cX3_hearInData 43 = .ok (.aload_n 0, 1) := by decide +kernel
theorem dX3_hearInData_44 : decode cX3_hearInData 44 = .ok (.getfield 78, 3) := by decide +kernel
theorem dX3_hearInData_47 : decode cX3_hearInData 47 = .ok (.invokevirtual 167, 3) := by decide +kernel
theorem dX3_hearInData_50 : decode cX3_hearInData 50 = .ok (.goto 7, 3) := by decide +kernel
theorem dX3_hearInData_53 : decode cX3_hearInData 53 = .ok (.aload_n 0, 1) := by decide +kernel
theorem dX3_hearInData_54 : decode cX3_hearInData 54 = .ok (.invokevirtual 146, 3) := by decide +kernel
theorem dX3_hearInData_57 : decode cX3_hearInData 57 = .ok (.return_, 1) := by decide +kernel
set_option maxRecDepth 20000 in
theorem ggX3_look_X3_come : GoodIn wsX3_look wsX3_come := goodIn_r _ [10, 1, 2, 11, 12, 13, 14, 15, 16, 17, 18, 19, 20, 21, 22, 23, 24, 25, 26, 64, 65, 66, 67, 68, 69, 70, 71, 72, 73, 74, 75, 76, 77, 78, 79, 80, 81, 82, 83, 88, 89, 90, 91, 92, 93, 94, 95, 96, 97] (by decide +kernel) (by decide +kernel)
set_option maxRecDepth 20000 in
theorem gX3_look_X3_come : GoodIn wsX3_look (wsV RX3 128 RX3 yX3_come wsX3_come) := goodIn_app (goodIn_of _ (by decide +kernel)) ggX3_look_X3_come
set_option maxRecDepth 20000 in
theorem ggX3_look_X3_makeOffer : GoodIn wsX3_look wsX3_makeOffer := goodIn_r _ [30, 13, 31, 32, 12, 33, 34, 35, 36, 37, 38, 39, 40, 41, 42, 24, 43, 44, 26, 45, 46, 47, 64, 65, 66, 67, 68, 69, 70, 71, 72, 73, 74, 75, 76, 77, 78, 79, 80, 81, 82, 83, 96, 97] (by decide +kernel) (by decide +kernel)
set_option maxRecDepth 20000 in
theorem gX3_look_X3_makeOffer : GoodIn wsX3_look (wsV RX3 171 RX3 yX3_makeOffer wsX3_makeOffer) := goodIn_app (goodIn_of _ (by decide +kernel)) ggX3_look_X3_makeOffer
set_option maxRecDepth 20000 in
theorem ggX3_look_X3_lookAtWaiting : GoodIn wsX3_look wsX3_lookAtWaiting := goodIn_r _ [51, 17, 18, 19, 15, 3, 4, 64, 65, 66, 67, 68, 69, 70, 71, 72, 73, 74, 75, 76, 77, 78, 79, 80, 81, 82, 83, 88, 89, 90, 91, 92, 93, 94, 95, 84, 85, 86, 87] (by decide +kernel) (by decide +kernel)
set_option maxRecDepth 20000 in
theorem gX3_look_X3_lookAtWaiting : GoodIn wsX3_look (wsV RX3 174 RX3 yX3_lookAtWaiting wsX3_lookAtWaiting) := goodIn_app (goodIn_of _ (by decide +kernel)) ggX3_look_X3_lookAtWaiting
set_option maxRecDepth 20000 in
theorem ggX3_look_X3_lookAtLosses : GoodIn wsX3_look wsX3_lookAtLosses := goodIn_r _ [55, 16, 32, 2, 56, 5, 57, 58, 59, 60, 61, 62, 63, 6, 7, 8, 9, 10, 1, 11, 12, 13, 14, 15, 17, 18, 19, 20, 21, 22, 23, 24, 25, 26, 64, 65, 66, 67, 68, 69, 70, 71, 72, 73, 74, 75, 76, 77, 78, 79, 80, 81, 82, 83, 88, 89, 90, 91, 92, 93, 94, 95, 96, 97] (by decide +kernel) (by decide +kernel)
set_option maxRecDepth 20000 in
theorem gX3_look_X3_lookAtLosses : GoodIn wsX3_look (wsV RX3 177 RX3 yX3_lookAtLosses wsX3_lookAtLosses) := goodIn_app (goodIn_of _ (by decide +kernel)) ggX3_look_X3_lookAtLosses
theorem dX3_look_0 : decode cX3_look 0 = .ok (.aload_n 0, 1) := by decide +kernel
theorem dX3_look_1 : decode cX3_look 1 = .ok (.getfield 31, 3) := by decide +kernel
theorem dX3_look_4 : decode cX3_look 4 = .ok (.iconst 3, 1) := by decide +kernel
theorem dX3_look_5 : decode cX3_look 5 = .ok (.if_icmp .ne 30, 3) := by decide +kernel
theorem dX3_look_8 : decode cX3_look 8 = .ok (.aload_n 0, 1) := by decide +kernel
theorem dX3_look_9 : decode cX3_look 9 = .ok (.getfield 38, 3) := by decide +kernel
theorem dX3_look_12 : decode cX3_look 12 = .ok (.bipush 10, 2) := by decide +kernel
theorem dX3_look_14 : decode cX3_look 14 = .ok (.iconst 2, 1) := by decide +kernel
theorem dX3_look_15 : decode cX3_look 15 = .ok (.aload_n 0, 1) := by decide +kernel
theorem dX3_look_16 : decode cX3_look 16 = .ok (.getfield 74, 3) := by decide +kernel
theorem dX3_look_19 : decode cX3_look 19 = .ok (.getfield 117, 3) := by decide +kernel
theorem dX3_look_22 : decode cX3_look 22 = .ok (.imul, 1) := by decide +kernel
theorem dX3_look_23 : decode cX3_look 23 = .ok (.iadd, 1) := by decide +kernel
theorem dX3_look_24 : decode cX3_look 24 = .ok (.if_icmp .lt 11, 3) := by decide +kernel
theorem dX3_look_27 : decode cX3_look 27 = .ok (.aload_n 0, 1) := by decide +kernel
theorem dX3_look_28 : decode cX3_look 28 = .ok (.iconst 4, 1) := by decide +kernel
theorem dX3_look_29 : decode cX3_look 29 = .ok (.invokevirtual 128, 3) := by decide +kernel
theorem dX3_look_32 : decode cX3_look 32 = .ok (.goto 55, 3) := by decide +kernel
theorem dX3_look_35 : decode cX3_look 35 = .ok (.aload_n 0, 1) := by decide +kernel
theorem dX3_look_36 : decode cX3_look 36 = .ok (.getfield 31, 3) := by decide +kernel
theorem dX3_look_39 : decode cX3_look 39 = .ok (.iconst 4, 1) := by decide +kernel
theorem dX3_look_40 : decode cX3_look 40 = .ok (.if_icmp .ne 29, 3) := by decide +kernel
theorem dX3_look_43 : decode cX3_look 43 = .ok (.aload_n 0, 1) := by decide +kernel
theorem dX3_look_44 : decode cX3_look 44 = .ok (.getfield 38, 3) := by decide +kernel
theorem dX3_look_47 : decode cX3_look 47 = .ok (.bipush 32, 2) := by decide +kernel
theorem dX3_look_49 : decode cX3_look 49 = .ok (.if_icmp .lt 20, 3) := by decide +kernel
theorem dX3_look_52 : decode cX3_look 52 = .ok (.aload_n 0, 1) := by decide +kernel
theorem dX3_look_53 : decode cX3_look 53 = .ok (.iconst 1, 1) := by decide +kernel
theorem dX3_look_54 : decode cX3_look 54 = .ok (.putfield 44, 3) := by decide +kernel
theorem dX3_look_57 : decode cX3_look 57 = .ok (.aload_n 0, 1) := by decide +kernel
theorem dX3_look_58 : decode cX3_look 58 = .ok (.invokevirtual 171, 3) := by decide +kernel
theorem dX3_look_61 : decode cX3_look 61 = .ok (.aload_n 0, 1) := by decide +kernel
theorem dX3_look_62 : decode cX3_look 62 = .ok (.iconst 5, 1) := by decide +kernel
theorem dX3_look_63 : decode cX3_look 63 = .ok (.invokevirtual 128, 3) := by decide +kernel
theorem dX3_look_66 : decode cX3_look 66 = .ok (.goto 21, 3) := by decide +kernel
theorem dX3_look_69 : decode cX3_look 69 = .ok (.aload_n 0, 1) := by decide +kernel
theorem dX3_look_70 : decode cX3_look 70 = .ok (.getfield 31, 3) := by decide +kernel
theorem dX3_look_73 : decode cX3_look 73 = .ok (.bipush 7, 2) := by decide +kernel
theorem dX3_look_75 : decode cX3_look 75 = .ok (.if_icmp .ne 12, 3) := by decide +kernel
theorem dX3_look_78 : decode cX3_look 78 = .ok (.aload_n 0, 1) := by decide +kernel
theorem dX3_look_79 : decode cX3_look 79 = .ok (.iload_n 1, 1) := by decide +kernel
theorem dX3_look_80 : decode cX3_look 80 = .ok (.invokevirtual 174, 3) := by decide +kernel
theorem dX3_look_83 : decode cX3_look 83 = .ok (.aload_n 0, 1) := by decide +kernel
theorem dX3_look_84 : decode cX3_look 84 = .ok (.invokevirtual 177, 3) := by decide +kernel
theorem dX3_look_87 : decode cX3_look 87 = .ok (.return_, 1) := by decide +kernel
set_option maxRecDepth 20000 in
theorem ggX3_makeOffer_X0_remains : GoodIn wsX3_makeOffer wsX0_remains := goodIn_r _ [16, 17, 18, 19, 20, 7, 21, 42, 43] (by decide +kernel) (by decide +kernel)
set_option maxRecDepth 20000 in
theorem gX3_makeOffer_X0_remains : GoodIn wsX3_makeOffer (wsV RX3 180 RX0 yX0_remains wsX0_remains) := goodIn_app (goodIn_of _ (by decide +kernel)) ggX3_makeOffer_X0_remains
theorem dX3_makeOffer_0 : decode cX3_makeOffer 0 = .ok (.aload_n 0, 1) := by decide +kernel
theorem dX3_makeOffer_1 : decode cX3_makeOffer 1 = .ok (.aload_n 0, 1) := by decide +kernel
theorem dX3_makeOffer_2 : decode cX3_makeOffer 2 = .ok (.getfield 12, 3) := by decide +kernel
theorem dX3_makeOffer_5 : decode cX3_makeOffer 5 = .ok (.invokevirtual 180, 3) := by decide +kernel
theorem dX3_makeOffer_8 : decode cX3_makeOffer 8 = .ok (.putfield 59, 3) := by decide +kernel
theorem dX3_makeOffer_11 : decode cX3_makeOffer 11 = .ok (.aload_n 0, 1) := by decide +kernel
theorem dX3_makeOffer_12 : decode cX3_makeOffer 12 = .ok (.iconst 0, 1) := by decide +kernel
theorem dX3_makeOffer_13 : decode cX3_makeOffer 13 = .ok (.putfield 47, 3) := by decide +kernel
theorem dX3_makeOffer_16 : decode cX3_makeOffer 16 = .ok (.iconst 0, 1) := by decide +kernel
theorem dX3_makeOffer_17 : decode cX3_makeOffer 17 = .ok (.istore_n 1, 1) := by decide +kernel
theorem dX3_makeOffer_18 : decode cX3_makeOffer 18 = .ok (.iload_n 1, 1) := by decide +kernel
theorem dX3_makeOffer_19 : decode cX3_makeOffer 19 = .ok (.bipush 8, 2) := by decide +kernel
theorem dX3_makeOffer_21 : decode cX3_makeOffer 21 = .ok (.if_icmp .ge 44, 3) := by decide +kernel
theorem dX3_makeOffer_24 : decode cX3_makeOffer 24 = .ok (.iconst 0, 1) := by decide +kernel
theorem dX3_makeOffer_25 : decode cX3_makeOffer 25 = .ok (.aload_n 0, 1) := by decide +kernel
theorem dX3_makeOffer_26 : decode cX3_makeOffer 26 = .ok (.getfield 25, 3) := by decide +kernel
theorem dX3_makeOffer_29 : decode cX3_makeOffer 29 = .ok (.iload_n 1, 1) := by decide +kernel
theorem dX3_makeOffer_30 : decode cX3_makeOffer 30 = .ok (.iaload, 1) := by decide +kernel
theorem dX3_makeOffer_31 : decode cX3_makeOffer 31 = .ok (.aload_n 0, 1) := by decide +kernel
theorem dX3_makeOffer_32 : decode cX3_makeOffer 32 = .ok (.getfield 59, 3) := by decide +kernel
theorem dX3_makeOffer_35 : decode cX3_makeOffer 35 = .ok (.bipush 20, 2) := by decide +kernel
theorem dX3_makeOffer_37 : decode cX3_makeOffer 37 = .ok (.idiv, 1) := by decide +kernel
theorem dX3_makeOffer_38 : decode cX3_makeOffer 38 = .ok (.isub, 1) := by decide +kernel
theorem dX3_makeOffer_39 : decode cX3_makeOffer 39 = .ok (.invokestatic 182, 3) := by decide +kernel
theorem dX3_makeOffer_42 : decode cX3_makeOffer 42 = .ok (.istore_n 2, 1) := by decide +kernel
theorem dX3_makeOffer_43 : decode cX3_makeOffer 43 = .ok (.aload_n 0, 1) := by decide +kernel
theorem dX3_makeOffer_44 : decode cX3_makeOffer 44 = .ok (.dup, 1) := by decide +kernel
theorem dX3_makeOffer_45 : decode cX3_makeOffer 45 = .ok (.getfield 47, 3) := by decide +kernel
theorem dX3_makeOffer_48 : decode cX3_makeOffer 48 = .ok (.iconst 3, 1) := by decide +kernel
theorem dX3_makeOffer_49 : decode cX3_makeOffer 49 = .ok (.iload_n 2, 1) := by decide +kernel
theorem dX3_makeOffer_50 : decode cX3_makeOffer 50 = .ok (.iconst 4, 1) := by decide +kernel
theorem dX3_makeOffer_51 : decode cX3_makeOffer 51 = .ok (.idiv, 1) := by decide +kernel
theorem dX3_makeOffer_52 : decode cX3_makeOffer 52 = .ok (.invokestatic 158, 3) := by decide +kernel
theorem dX3_makeOffer_55 : decode cX3_makeOffer 55 = .ok (.iadd, 1) := by decide +kernel
theorem dX3_makeOffer_56 : decode cX3_makeOffer 56 = .ok (.putfield 47, 3) := by decide +kernel
theorem dX3_makeOffer_59 : decode cX3_makeOffer 59 = .ok (.iinc 1 1, 3) := by decide +kernel
theorem dX3_makeOffer_62 : decode cX3_makeOffer 62 = .ok (.goto (-44), 3) := by decide +kernel
theorem dX3_makeOffer_65 : decode cX3_makeOffer 65 = .ok (.return_, 1) := by decide +kernel
theorem dX3_lookAtWaiting_0 : decode cX3_lookAtWaiting 0 = .ok (.aload_n 0, 1) := by decide +kernel
theorem dX3_lookAtWaiting_1 : decode cX3_lookAtWaiting 1 = .ok (.aload_n 0, 1) := by decide +kernel
theorem dX3_lookAtWaiting_2 : decode cX3_lookAtWaiting 2 = .ok (.getfield 21, 3) := by decide +kernel
theorem dX3_lookAtWaiting_5 : decode cX3_lookAtWaiting 5 = .ok (.getfield 91, 3) := by decide +kernel
theorem dX3_lookAtWaiting_8 : decode cX3_lookAtWaiting 8 = .ok (.aload_n 0, 1) := by decide +kernel
theorem dX3_lookAtWaiting_9 : decode cX3_lookAtWaiting 9 = .ok (.getfield 21, 3) := by decide +kernel
theorem dX3_lookAtWaiting_12 : decode cX3_lookAtWaiting 12 = .ok (.getfield 88, 3) := by decide +kernel
theorem dX3_lookAtWaiting_15 : decode cX3_lookAtWaiting 15 = .ok (.if_icmp .ge 16, 3) := by decide +kernel
theorem dX3_lookAtWaiting_18 : decode cX3_lookAtWaiting 18 = .ok (.iload_n 1, 1) := by decide +kernel
theorem dX3_lookAtWaiting_19 : decode cX3_lookAtWaiting 19 = .ok (.ifCond .ne 12, 3) := by decide +kernel
theorem dX3_lookAtWaiting_22 : decode cX3_lookAtWaiting 22 = .ok (.aload_n 0, 1) := by decide +kernel
theorem dX3_lookAtWaiting_23 : decode cX3_lookAtWaiting 23 = .ok (.getfield 56, 3) := by decide +kernel
theorem dX3_lookAtWaiting_26 : decode cX3_lookAtWaiting 26 = .ok (.iconst 1, 1) := by decide +kernel
theorem dX3_lookAtWaiting_27 : decode cX3_lookAtWaiting 27 = .ok (.iadd, 1) := by decide +kernel
theorem dX3_lookAtWaiting_28 : decode cX3_lookAtWaiting 28 = .ok (.goto 4, 3) := by decide +kernel
theorem dX3_lookAtWaiting_31 : decode cX3_lookAtWaiting 31 = .ok (.iconst 0, 1) := by decide +kernel
theorem dX3_lookAtWaiting_32 : decode cX3_lookAtWaiting 32 = .ok (.putfield 56, 3) := by decide +kernel
theorem dX3_lookAtWaiting_35 : decode cX3_lookAtWaiting 35 = .ok (.aload_n 0, 1) := by decide +kernel
theorem dX3_lookAtWaiting_36 : decode cX3_lookAtWaiting 36 = .ok (.getfield 56, 3) := by decide +kernel
theorem dX3_lookAtWaiting_39 : decode cX3_lookAtWaiting 39 = .ok (.iconst 2, 1) := by decide +kernel
theorem dX3_lookAtWaiting_40 : decode cX3_lookAtWaiting 40 = .ok (.aload_n 0, 1) := by decide +kernel
theorem dX3_lookAtWaiting_41 : decode cX3_lookAtWaiting 41 = .ok (.getfield 74, 3) := by decide +kernel
theorem dX3_lookAtWaiting_44 : decode cX3_lookAtWaiting 44 = .ok (.getfield 117, 3) := by decide +kernel
theorem dX3_lookAtWaiting_47 : decode cX3_lookAtWaiting 47 = .ok (.imul, 1) := by decide +kernel
theorem dX3_lookAtWaiting_48 : decode cX3_lookAtWaiting 48 = .ok (.iconst 4, 1) := by decide +kernel
theorem dX3_lookAtWaiting_49 : decode cX3_lookAtWaiting 49 = .ok (.iadd, 1) := by decide +kernel
theorem dX3_lookAtWaiting_50 : decode cX3_lookAtWaiting 50 = .ok (.if_icmp .lt 22, 3) := by decide +kernel
theorem dX3_lookAtWaiting_53 : decode cX3_lookAtWaiting 53 = .ok (.aload_n 0, 1) := by decide +kernel
theorem dX3_lookAtWaiting_54 : decode cX3_lookAtWaiting 54 = .ok (.iconst 0, 1) := by decide +kernel
theorem dX3_lookAtWaiting_55 : decode cX3_lookAtWaiting 55 = .ok (.putfield 56, 3) := by decide +kernel
theorem dX3_lookAtWaiting_58 : decode cX3_lookAtWaiting 58 = .ok (.aload_n 0, 1) := by decide +kernel
theorem dX3_lookAtWaiting_59 : decode cX3_lookAtWaiting 59 = .ok (.getfield 21, 3) := by decide +kernel
theorem dX3_lookAtWaiting_62 : decode cX3_lookAtWaiting 62 = .ok (.aload_n 0, 1) := by decide +kernel
theorem dX3_lookAtWaiting_63 : decode cX3_lookAtWaiting 63 = .ok (.getfield 21, 3) := by decide +kernel
theorem dX3_lookAtWaiting_66 : decode cX3_lookAtWaiting 66 = .ok (.getfield 91, 3) := by decide +kernel
theorem dX3_lookAtWaiting_69 : decode cX3_lookAtWaiting 69 = .ok (.putfield 88, 3) := by decide +kernel
theorem dX3_lookAtWaiting_72 : decode cX3_lookAtWaiting 72 = .ok (.return_, 1) := by decide +kernel
set_option maxRecDepth 20000 in
theorem ggX3_lookAtLosses_J6_bitCount_0f7a4 : GoodIn wsX3_lookAtLosses wsJ6_bitCount_0f7a4 := goodIn_r _ [9, 10, 11, 12] (by decide +kernel) (by decide +kernel)
set_option maxRecDepth 20000 in
theorem gX3_lookAtLosses_J6_bitCount_0f7a4 : GoodIn wsX3_lookAtLosses (va_wsS RX3 185 yJ6_bitCount_0f7a4 wsJ6_bitCount_0f7a4) := goodIn_app (goodIn_of _ (by decide +kernel)) ggX3_lookAtLosses_J6_bitCount_0f7a4
set_option maxRecDepth 20000 in
theorem ggX3_lookAtLosses_X3_come : GoodIn wsX3_lookAtLosses wsX3_come := goodIn_r _ [17, 18, 3, 19, 20, 21, 22, 23, 1, 24, 25, 26, 27, 28, 29, 30, 31, 32, 33, 34, 35, 36, 37, 38, 39, 40, 41, 42, 43, 44, 45, 46, 47, 48, 49, 50, 51, 52, 53, 54, 55, 56, 57, 58, 59, 60, 61, 62, 63] (by decide +kernel) (by decide +kernel)
set_option maxRecDepth 20000 in
theorem gX3_lookAtLosses_X3_come : GoodIn wsX3_lookAtLosses (wsV RX3 128 RX3 yX3_come wsX3_come) := goodIn_app (goodIn_of _ (by decide +kernel)) ggX3_lookAtLosses_X3_come
theorem dX3_lookAtLosses_0 : decode cX3_lookAtLosses 0 = .ok (.aload_n 0, 1) := by decide +kernel
theorem dX3_lookAtLosses_1 : decode cX3_lookAtLosses 1 = .ok (.getfield 62, 3) := by decide +kernel
theorem dX3_lookAtLosses_4 : decode cX3_lookAtLosses 4 = .ok (.invokestatic 185, 3) := by decide +kernel
theorem dX3_lookAtLosses_7 : decode cX3_lookAtLosses 7 = .ok (.iconst 3, 1) := by decide +kernel
theorem dX3_lookAtLosses_8 : decode cX3_lookAtLosses 8 = .ok (.if_icmp .lt 55, 3) := by decide +kernel
theorem dX3_lookAtLosses_11 : decode cX3_lookAtLosses 11 = .ok (.aload_n 0, 1) := by decide +kernel
theorem dX3_lookAtLosses_12 : decode cX3_lookAtLosses 12 = .ok (.getfield 47, 3) := by decide +kernel
theorem dX3_lookAtLosses_15 : decode cX3_lookAtLosses 15 = .ok (.iconst 1, 1) := by decide +kernel
theorem dX3_lookAtLosses_16 : decode cX3_lookAtLosses 16 = .ok (.if_icmp .le 47, 3) := by decide +kernel
theorem dX3_lookAtLosses_19 : decode cX3_lookAtLosses 19 = .ok (.aload_n 0, 1) := by decide +kernel
theorem dX3_lookAtLosses_20 : decode cX3_lookAtLosses 20 = .ok (.getfield 38, 3) := by decide +kernel
theorem dX3_lookAtLosses_23 : decode cX3_lookAtLosses 23 = .ok (.bipush 8, 2) := by decide +kernel
theorem dX3_lookAtLosses_25 : decode cX3_lookAtLosses 25 = .ok (.if_icmp .lt 38, 3) := by decide +kernel
theorem dX3_lookAtLosses_28 : decode cX3_lookAtLosses 28 = .ok (.aload_n 0, 1) := by decide +kernel
theorem dX3_lookAtLosses_29 : decode cX3_lookAtLosses 29 = .ok (.dup, 1) := by decide +kernel
theorem dX3_lookAtLosses_30 : decode cX3_lookAtLosses 30 = .ok (.getfield 68, 3) := by decide +kernel
theorem dX3_lookAtLosses_33 : decode cX3_lookAtLosses 33 = .ok (.iconst 1, 1) := by decide +kernel
theorem dX3_lookAtLosses_34 : decode cX3_lookAtLosses 34 = .ok (.iadd, 1) := by decide +kernel
theorem dX3_lookAtLosses_35 : decode cX3_lookAtLosses 35 = .ok (.putfield 68, 3) := by decide +kernel
theorem dX3_lookAtLosses_38 : decode cX3_lookAtLosses 38 = .ok (.aload_n 0, 1) := by decide +kernel
theorem dX3_lookAtLosses_39 : decode cX3_lookAtLosses 39 = .ok (.dup, 1) := by decide +kernel
theorem dX3_lookAtLosses_40 : decode cX3_lookAtLosses 40 = .ok (.getfield 44, 3) := by decide +kernel
theorem dX3_lookAtLosses_43 : decode cX3_lookAtLosses 43 = .ok (.iconst 1, 1) := by decide +kernel
theorem dX3_lookAtLosses_44 : decode cX3_lookAtLosses 44 = .ok (.iadd, 1) := by decide +kernel
theorem dX3_lookAtLosses_45 : decode cX3_lookAtLosses 45 = .ok (.putfield 44, 3) := by decide +kernel
theorem dX3_lookAtLosses_48 : decode cX3_lookAtLosses 48 = .ok (.aload_n 0, 1) := by decide +kernel
theorem dX3_lookAtLosses_49 : decode cX3_lookAtLosses 49 = .ok (.dup, 1) := by decide +kernel
theorem dX3_lookAtLosses_50 : decode cX3_lookAtLosses 50 = .ok (.getfield 47, 3) := by decide +kernel
theorem dX3_lookAtLosses_53 : decode cX3_lookAtLosses 53 = .ok (.iconst 1, 1) := by decide +kernel
theorem dX3_lookAtLosses_54 : decode cX3_lookAtLosses 54 = .ok (.isub, 1) := by decide +kernel
theorem dX3_lookAtLosses_55 : decode cX3_lookAtLosses 55 = .ok (.putfield 47, 3) := by decide +kernel
theorem dX3_lookAtLosses_58 : decode cX3_lookAtLosses 58 = .ok (.aload_n 0, 1) := by decide +kernel
theorem dX3_lookAtLosses_59 : decode cX3_lookAtLosses 59 = .ok (.iconst 5, 1) := by decide +kernel
theorem dX3_lookAtLosses_60 : decode cX3_lookAtLosses 60 = .ok (.invokevirtual 128, 3) := by decide +kernel
theorem dX3_lookAtLosses_63 : decode cX3_lookAtLosses 63 = .ok (.return_, 1) := by decide +kernel
set_option maxRecDepth 20000 in
theorem ggX3_speak_X7_send : GoodIn wsX3_speak wsX7_send := goodIn_r _ [12, 13, 14, 15, 87, 88, 89, 90, 91, 92, 93, 94] (by decide +kernel) (by decide +kernel)
set_option maxRecDepth 20000 in
theorem gX3_speak_X7_send : GoodIn wsX3_speak (wsV RX3 191 RX7 yX7_send wsX7_send) := goodIn_app (goodIn_of _ (by decide +kernel)) ggX3_speak_X7_send
set_option maxRecDepth 20000 in
theorem ggX3_speak_X3_speakProbe : GoodIn wsX3_speak wsX3_speakProbe := goodIn_r _ [20, 4, 2, 8, 9, 10, 11, 12, 13, 14, 15, 67, 68, 69, 70, 71, 72, 73, 74, 75, 76, 77, 78, 79, 80, 81, 82, 83, 84, 85, 86, 87, 88, 89, 90, 91, 92, 93, 94] (by decide +kernel) (by decide +kernel)
set_option maxRecDepth 20000 in
theorem gX3_speak_X3_speakProbe : GoodIn wsX3_speak (wsV RX3 195 RX3 yX3_speakProbe wsX3_speakProbe) := goodIn_app (goodIn_of _ (by decide +kernel)) ggX3_speak_X3_speakProbe
set_option maxRecDepth 20000 in
theorem ggX3_speak_X0_follow : GoodIn wsX3_speak wsX0_follow := goodIn_r _ [25, 26, 27, 28, 29, 30, 24, 31, 95, 96] (by decide +kernel) (by decide +kernel)
set_option maxRecDepth 20000 in
theorem gX3_speak_X0_follow : GoodIn wsX3_speak (wsV RX3 198 RX0 yX0_follow wsX0_follow) := goodIn_app (goodIn_of _ (by decide +kernel)) ggX3_speak_X0_follow
set_option maxRecDepth 20000 in
theorem ggX3_speak_X3_speakFrame : GoodIn wsX3_speak wsX3_speakFrame := goodIn_r _ [35, 36, 7, 37, 38, 39, 40, 41, 2, 5, 42, 43, 44, 45, 46, 47, 48, 49, 50, 51, 52, 8, 9, 10, 11, 12, 13, 14, 15, 53, 54, 55, 56, 57, 58, 59, 60, 61, 62, 63, 64, 65, 66, 67, 68, 69, 70, 71, 72, 73, 74, 75, 76, 77, 78, 79, 80, 81, 82, 83, 84, 85, 86, 97, 98, 99, 100, 101, 102, 103, 104, 87, 88, 89, 90, 91, 92, 93, 94] (by decide +kernel) (by decide +kernel)
set_option maxRecDepth 20000 in
theorem gX3_speak_X3_speakFrame : GoodIn wsX3_speak (wsV RX3 201 RX3 yX3_speakFrame wsX3_speakFrame) := goodIn_app (goodIn_of _ (by decide +kernel)) ggX3_speak_X3_speakFrame
theorem dX3_speak_0 : decode cX3_speak 0 = .ok (.aload_n 0, 1) := by decide +kernel
theorem dX3_speak_1 : decode cX3_speak 1 = .ok (.getfield 31, 3) := by decide +kernel
theorem dX3_speak_4 : decode cX3_speak 4 = .ok (.tableswitch 164 1 7 #[44, 60, 76, 84, 111, 133, 156], 44) := by decide +kernel
theorem dX3_speak_48 : decode cX3_speak 48 = .ok (.aload_n 0, 1) := by decide +kernel
theorem dX3_speak_49 : decode cX3_speak 49 = .ok (.getfield 82, 3) := by decide +kernel
theorem dX3_speak_52 : decode cX3_speak 52 = .ok (.iload_n 1, 1) := by decide +kernel
theorem dX3_speak_53 : decode cX3_speak 53 = .ok (.iconst 1, 1) := by decide +kernel
theorem dX3_speak_54 : decode cX3_speak 54 = .ok (.iconst 0, 1) := by decide +kernel
theorem dX3_speak_55 : decode cX3_speak 55 = .ok (.iconst 0, 1) := by decide +kernel
theorem dX3_speak_56 : decode cX3_speak 56 = .ok (.iconst 0, 1) := by decide +kernel
theorem dX3_speak_57 : decode cX3_speak 57 = .ok (.iconst 0, 1) := by decide +kernel
theorem dX3_speak_58 : decode cX3_speak 58 = .ok (.invokevirtual 191, 3) := by decide +kernel
theorem dX3_speak_61 : decode cX3_speak 61 = .ok (.goto 120, 3) := by decide +kernel
theorem dX3_speak_64 : decode cX3_speak 64 = .ok (.aload_n 0, 1) := by decide +kernel
theorem dX3_speak_65 : decode cX3_speak 65 = .ok (.getfield 82, 3) := by decide +kernel
theorem dX3_speak_68 : decode cX3_speak 68 = .ok (.iload_n 1, 1) := by decide +kernel
theorem dX3_speak_69 : decode cX3_speak 69 = .ok (.iconst 2, 1) := by decide +kernel
theorem dX3_speak_70 : decode cX3_speak 70 = .ok (.iconst 0, 1) := by decide +kernel
theorem dX3_speak_71 : decode cX3_speak 71 = .ok (.iconst 0, 1) := by decide +kernel
theorem dX3_speak_72 : decode cX3_speak 72 = .ok (.iconst 0, 1) := by decide +kernel
theorem dX3_speak_73 : decode cX3_speak 73 = .ok (.iconst 0, 1) := by decide +kernel
theorem dX3_speak_74 : decode cX3_speak 74 = .ok (.invokevirtual 191, 3) := by decide +kernel
theorem dX3_speak_77 : decode cX3_speak 77 = .ok (.goto 104, 3) := by decide +kernel
theorem dX3_speak_80 : decode cX3_speak 80 = .ok (.aload_n 0, 1) := by decide +kernel
theorem dX3_speak_81 : decode cX3_speak 81 = .ok (.iload_n 1, 1) := by decide +kernel
theorem dX3_speak_82 : decode cX3_speak 82 = .ok (.invokevirtual 195, 3) := by decide +kernel
theorem dX3_speak_85 : decode cX3_speak 85 = .ok (.goto 96, 3) := by decide +kernel
theorem dX3_speak_88 : decode cX3_speak 88 = .ok (.aload_n 0, 1) := by decide +kernel
theorem dX3_speak_89 : decode cX3_speak 89 = .ok (.getfield 82, 3) := by decide +kernel
theorem dX3_speak_92 : decode cX3_speak 92 = .ok (.iload_n 1, 1) := by decide +kernel
theorem dX3_speak_93 : decode cX3_speak 93 = .ok (.iconst 4, 1) := by decide +kernel
theorem dX3_speak_94 : decode cX3_speak 94 = .ok (.iconst 0, 1) := by decide +kernel
theorem dX3_speak_95 : decode cX3_speak 95 = .ok (.iconst 0, 1) := by decide +kernel
theorem dX3_speak_96 : decode cX3_speak 96 = .ok (.iconst 0, 1) := by decide +kernel
theorem dX3_speak_97 : decode cX3_speak 97 = .ok (.iconst 0, 1) := by decide +kernel
theorem dX3_speak_98 : decode cX3_speak 98 = .ok (.invokevirtual 191, 3) := by decide +kernel
theorem dX3_speak_101 : decode cX3_speak 101 = .ok (.aload_n 0, 1) := by decide +kernel
theorem dX3_speak_102 : decode cX3_speak 102 = .ok (.getfield 12, 3) := by decide +kernel
theorem dX3_speak_105 : decode cX3_speak 105 = .ok (.aload_n 0, 1) := by decide +kernel
theorem dX3_speak_106 : decode cX3_speak 106 = .ok (.getfield 38, 3) := by decide +kernel
theorem dX3_speak_109 : decode cX3_speak 109 = .ok (.invokevirtual 198, 3) := by decide +kernel
theorem dX3_speak_112 : decode cX3_speak 112 = .ok (.goto 69, 3) := by decide +kernel
theorem dX3_speak_115 : decode cX3_speak 115 = .ok (.aload_n 0, 1) := by decide +kernel
theorem dX3_speak_116 : decode cX3_speak 116 = .ok (.getfield 82, 3) := by decide +kernel
theorem dX3_speak_119 : decode cX3_speak 119 = .ok (.iload_n 1, 1) := by decide +kernel
theorem dX3_speak_120 : decode cX3_speak 120 = .ok (.iconst 5, 1) := by decide +kernel
theorem dX3_speak_121 : decode cX3_speak 121 = .ok (.aload_n 0, 1) := by decide +kernel
theorem dX3_speak_122 : decode cX3_speak 122 = .ok (.getfield 44, 3) := by decide +kernel
theorem dX3_speak_125 : decode cX3_speak 125 = .ok (.aload_n 0, 1) := by decide +kernel
theorem dX3_speak_126 : decode cX3_speak 126 = .ok (.getfield 47, 3) := by decide +kernel
theorem dX3_speak_129 : decode cX3_speak 129 = .ok (.iconst 0, 1) := by decide +kernel
theorem dX3_speak_130 : decode cX3_speak 130 = .ok (.iconst 0, 1) := by decide +kernel
theorem dX3_speak_131 : decode cX3_speak 131 = .ok (.invokevirtual 191, 3) := by decide +kernel
theorem dX3_speak_134 : decode cX3_speak 134 = .ok (.goto 47, 3) := by decide +kernel
theorem dX3_speak_137 : decode cX3_speak 137 = .ok (.aload_n 0, 1) := by decide +kernel
theorem dX3_speak_138 : decode cX3_speak 138 = .ok (.getfield 82, 3) := by decide +kernel
theorem dX3_speak_141 : decode cX3_speak 141 = .ok (.iload_n 1, 1) := by decide +kernel
theorem dX3_speak_142 : decode cX3_speak 142 = .ok (.bipush 6, 2) := by decide +kernel
theorem dX3_speak_144 : decode cX3_speak 144 = .ok (.aload_n 0, 1) := by decide +kernel
theorem dX3_speak_145 : decode cX3_speak 145 = .ok (.getfield 44, 3) := by decide +kernel
theorem dX3_speak_148 : decode cX3_speak 148 = .ok (.aload_n 0, 1) := by decide +kernel
theorem dX3_speak_149 : decode cX3_speak 149 = .ok (.getfield 50, 3) := by decide +kernel
theorem dX3_speak_152 : decode cX3_speak 152 = .ok (.iconst 0, 1) := by decide +kernel
theorem dX3_speak_153 : decode cX3_speak 153 = .ok (.iconst 0, 1) := by decide +kernel
theorem dX3_speak_154 : decode cX3_speak 154 = .ok (.invokevirtual 191, 3) := by decide +kernel
theorem dX3_speak_157 : decode cX3_speak 157 = .ok (.goto 24, 3) := by decide +kernel
theorem dX3_speak_160 : decode cX3_speak 160 = .ok (.aload_n 0, 1) := by decide +kernel
theorem dX3_speak_161 : decode cX3_speak 161 = .ok (.iload_n 1, 1) := by decide +kernel
theorem dX3_speak_162 : decode cX3_speak 162 = .ok (.invokevirtual 201, 3) := by decide +kernel
theorem dX3_speak_165 : decode cX3_speak 165 = .ok (.goto 16, 3) := by decide +kernel
theorem dX3_speak_168 : decode cX3_speak 168 = .ok (.aload_n 0, 1) := by decide +kernel
theorem dX3_speak_169 : decode cX3_speak 169 = .ok (.getfield 82, 3) := by decide +kernel
theorem dX3_speak_172 : decode cX3_speak 172 = .ok (.iload_n 1, 1) := by decide +kernel
theorem dX3_speak_173 : decode cX3_speak 173 = .ok (.iconst 0, 1) := by decide +kernel
theorem dX3_speak_174 : decode cX3_speak 174 = .ok (.iconst 0, 1) := by decide +kernel
theorem dX3_speak_175 : decode cX3_speak 175 = .ok (.iconst 0, 1) := by decide +kernel
theorem dX3_speak_176 : decode cX3_speak 176 = .ok (.iconst 0, 1) := by decide +kernel
theorem dX3_speak_177 : decode cX3_speak 177 = .ok (.iconst 0, 1) := by decide +kernel
theorem dX3_speak_178 : decode cX3_speak 178 = .ok (.invokevirtual 191, 3) := by decide +kernel
theorem dX3_speak_181 : decode cX3_speak 181 = .ok (.return_, 1) := by decide +kernel
set_option maxRecDepth 20000 in
theorem ggX3_speakProbe_X7_send : GoodIn wsX3_speakProbe wsX7_send := goodIn_r _ [7, 8, 9, 10, 31, 32, 33, 34, 35, 36, 37, 38] (by decide +kernel) (by decide +kernel)
set_option maxRecDepth 20000 in
theorem gX3_speakProbe_X7_send : GoodIn wsX3_speakProbe (wsV RX3 191 RX7 yX7_send wsX7_send) := goodIn_app (goodIn_of _ (by decide +kernel)) ggX3_speakProbe_X7_send
theorem dX3_speakProbe_0 : decode cX3_speakProbe 0 = .ok (.aload_n 0, 1) := by decide +kernel
theorem dX3_speakProbe_1 : decode cX3_speakProbe 1 = .ok (.getfield 38, 3) := by decide +kernel
theorem dX3_speakProbe_4 : decode cX3_speakProbe 4 = .ok (.bipush 8, 2) := by decide +kernel
theorem dX3_speakProbe_6 : decode cX3_speakProbe 6 = .ok (.if_icmp .ge 22, 3) := by decide +kernel
theorem dX3_speakProbe_9 : decode cX3_speakProbe 9 = .ok (.aload_n 0, 1) := by decide +kernel
theorem dX3_speakProbe_10 : decode cX3_speakProbe 10 = .ok (.getfield 82, 3) := by decide +kernel
theorem dX3_speakProbe_13 : decode cX3_speakProbe 13 = .ok (.iload_n 1, 1) := by decide +kernel
theorem dX3_speakProbe_14 : decode cX3_speakProbe 14 = .ok (.iconst 3, 1) := by decide +kernel
theorem dX3_speakProbe_15 : decode cX3_speakProbe 15 = .ok (.aload_n 0, 1) := by decide +kernel
theorem dX3_speakProbe_16 : decode cX3_speakProbe 16 = .ok (.getfield 38, 3) := by decide +kernel
theorem dX3_speakProbe_19 : decode cX3_speakProbe 19 = .ok (.iconst 0, 1) := by decide +kernel
theorem dX3_speakProbe_20 : decode cX3_speakProbe 20 = .ok (.iconst 0, 1) := by decide +kernel
theorem dX3_speakProbe_21 : decode cX3_speakProbe 21 = .ok (.iconst 0, 1) := by decide +kernel
theorem dX3_speakProbe_22 : decode cX3_speakProbe 22 = .ok (.invokevirtual 191, 3) := by decide +kernel
theorem dX3_speakProbe_25 : decode cX3_speakProbe 25 = .ok (.goto 16, 3) := by decide +kernel
theorem dX3_speakProbe_28 : decode cX3_speakProbe 28 = .ok (.aload_n 0, 1) := by decide +kernel
theorem dX3_speakProbe_29 : decode cX3_speakProbe 29 = .ok (.getfield 82, 3) := by decide +kernel
theorem dX3_speakProbe_32 : decode cX3_speakProbe 32 = .ok (.iload_n 1, 1) := by decide +kernel
theorem dX3_speakProbe_33 : decode cX3_speakProbe 33 = .ok (.iconst 0, 1) := by decide +kernel
theorem dX3_speakProbe_34 : decode cX3_speakProbe 34 = .ok (.iconst 0, 1) := by decide +kernel
theorem dX3_speakProbe_35 : decode cX3_speakProbe 35 = .ok (.iconst 0, 1) := by decide +kernel
theorem dX3_speakProbe_36 : decode cX3_speakProbe 36 = .ok (.iconst 0, 1) := by decide +kernel
theorem dX3_speakProbe_37 : decode cX3_speakProbe 37 = .ok (.iconst 0, 1) := by decide +kernel
theorem dX3_speakProbe_38 : decode cX3_speakProbe 38 = .ok (.invokevirtual 191, 3) := by decide +kernel
theorem dX3_speakProbe_41 : decode cX3_speakProbe 41 = .ok (.return_, 1) := by decide +kernel
set_option maxRecDepth 20000 in
theorem ggX3_speakFrame_X2_ready : GoodIn wsX3_speakFrame wsX2_ready := goodIn_r _ [16, 17, 18, 19, 20, 4, 5, 6, 63, 64, 65, 66, 67, 68, 69, 70] (by decide +kernel) (by decide +kernel)
set_option maxRecDepth 20000 in
theorem gX3_speakFrame_X2_ready : GoodIn wsX3_speakFrame (wsV RX3 204 RX2 yX2_ready wsX2_ready) := goodIn_app (goodIn_of _ (by decide +kernel)) ggX3_speakFrame_X2_ready
set_option maxRecDepth 20000 in
theorem ggX3_speakFrame_X7_send : GoodIn wsX3_speakFrame wsX7_send := goodIn_r _ [25, 26, 27, 28, 71, 72, 73, 74, 75, 76, 77, 78] (by decide +kernel) (by decide +kernel)
set_option maxRecDepth 20000 in
theorem gX3_speakFrame_X7_send : GoodIn wsX3_speakFrame (wsV RX3 191 RX7 yX7_send wsX7_send) := goodIn_app (goodIn_of _ (by decide +kernel)) ggX3_speakFrame_X7_send
set_option maxRecDepth 20000 in
theorem ggX3_speakFrame_X2_pass : GoodIn wsX3_speakFrame wsX2_pass := goodIn_r _ [32, 18, 33, 34, 35, 36, 37, 5, 38, 63, 64, 65, 66, 67, 68, 69, 70] (by decide +kernel) (by decide +kernel)
set_option maxRecDepth 20000 in
theorem gX3_speakFrame_X2_pass : GoodIn wsX3_speakFrame (wsV RX3 207 RX2 yX2_pass wsX2_pass) := goodIn_app (goodIn_of _ (by decide +kernel)) ggX3_speakFrame_X2_pass
set_option maxRecDepth 20000 in
theorem ggX3_speakFrame_X7_enclose : GoodIn wsX3_speakFrame wsX7_enclose := goodIn_r _ [42, 28, 71, 72, 73, 74, 75, 76, 77, 78] (by decide +kernel) (by decide +kernel)
set_option maxRecDepth 20000 in
theorem gX3_speakFrame_X7_enclose : GoodIn wsX3_speakFrame (wsV RX3 210 RX7 yX7_enclose wsX7_enclose) := goodIn_app (goodIn_of _ (by decide +kernel)) ggX3_speakFrame_X7_enclose
theorem dX3_speakFrame_0 : decode cX3_speakFrame 0 = .ok (.aload_n 0, 1) := by decide +kernel
theorem dX3_speakFrame_1 : decode cX3_speakFrame 1 = .ok (.bipush 24, 2) := by decide +kernel
theorem dX3_speakFrame_3 : decode cX3_speakFrame 3 = .ok (.aload_n 0, 1) := by decide +kernel
theorem dX3_speakFrame_4 : decode cX3_speakFrame 4 = .ok (.getfield 53, 3) := by decide +kernel
theorem dX3_speakFrame_7 : decode cX3_speakFrame 7 = .ok (.aload_n 0, 1) := by decide +kernel
theorem dX3_speakFrame_8 : decode cX3_speakFrame 8 = .ok (.getfield 50, 3) := by decide +kernel
theorem dX3_speakFrame_11 : decode cX3_speakFrame 11 = .ok (.iadd, 1) := by decide +kernel
theorem dX3_speakFrame_12 : decode cX3_speakFrame 12 = .ok (.invokestatic 158, 3) := by decide +kernel
theorem dX3_speakFrame_15 : decode cX3_speakFrame 15 = .ok (.putfield 53, 3) := by decide +kernel
theorem dX3_speakFrame_18 : decode cX3_speakFrame 18 = .ok (.aload_n 0, 1) := by decide +kernel
theorem dX3_speakFrame_19 : decode cX3_speakFrame 19 = .ok (.getfield 21, 3) := by decide +kernel
theorem dX3_speakFrame_22 : decode cX3_speakFrame 22 = .ok (.aload_n 0, 1) := by decide +kernel
theorem dX3_speakFrame_23 : decode cX3_speakFrame 23 = .ok (.getfield 53, 3) := by decide +kernel
theorem dX3_speakFrame_26 : decode cX3_speakFrame 26 = .ok (.bipush 8, 2) := by decide +kernel
theorem dX3_speakFrame_28 : decode cX3_speakFrame 28 = .ok (.idiv, 1) := by decide +kernel
theorem dX3_speakFrame_29 : decode cX3_speakFrame 29 = .ok (.invokevirtual 204, 3) := by decide +kernel
theorem dX3_speakFrame_32 : decode cX3_speakFrame 32 = .ok (.istore_n 2, 1) := by decide +kernel
theorem dX3_speakFrame_33 : decode cX3_speakFrame 33 = .ok (.aload_n 0, 1) := by decide +kernel
theorem dX3_speakFrame_34 : decode cX3_speakFrame 34 = .ok (.getfield 82, 3) := by decide +kernel
theorem dX3_speakFrame_37 : decode cX3_speakFrame 37 = .ok (.iload_n 1, 1) := by decide +kernel
theorem dX3_speakFrame_38 : decode cX3_speakFrame 38 = .ok (.bipush 7, 2) := by decide +kernel
theorem dX3_speakFrame_40 : decode cX3_speakFrame 40 = .ok (.aload_n 0, 1) := by decide +kernel
theorem dX3_speakFrame_41 : decode cX3_speakFrame 41 = .ok (.getfield 44, 3) := by decide +kernel
theorem dX3_speakFrame_44 : decode cX3_speakFrame 44 = .ok (.aload_n 0, 1) := by decide +kernel
theorem dX3_speakFrame_45 : decode cX3_speakFrame 45 = .ok (.getfield 21, 3) := by decide +kernel
theorem dX3_speakFrame_48 : decode cX3_speakFrame 48 = .ok (.getfield 88, 3) := by decide +kernel
theorem dX3_speakFrame_51 : decode cX3_speakFrame 51 = .ok (.iload_n 2, 1) := by decide +kernel
theorem dX3_speakFrame_52 : decode cX3_speakFrame 52 = .ok (.aload_n 0, 1) := by decide +kernel
theorem dX3_speakFrame_53 : decode cX3_speakFrame 53 = .ok (.getfield 21, 3) := by decide +kernel
theorem dX3_speakFrame_56 : decode cX3_speakFrame 56 = .ok (.getfield 94, 3) := by decide +kernel
theorem dX3_speakFrame_59 : decode cX3_speakFrame 59 = .ok (.invokevirtual 191, 3) := by decide +kernel
theorem dX3_speakFrame_62 : decode cX3_speakFrame 62 = .ok (.iconst 0, 1) := by decide +kernel
theorem dX3_speakFrame_63 : decode cX3_speakFrame 63 = .ok (.istore_n 3, 1) := by decide +kernel
theorem dX3_speakFrame_64 : decode cX3_speakFrame 64 = .ok (.iload_n 3, 1) := by decide +kernel
theorem dX3_speakFrame_65 : decode cX3_speakFrame 65 = .ok (.iload_n 2, 1) := by decide +kernel
theorem dX3_speakFrame_66 : decode cX3_speakFrame 66 = .ok (.if_icmp .ge 25, 3) := by decide +kernel
theorem dX3_speakFrame_69 : decode cX3_speakFrame 69 = .ok (.aload_n 0, 1) := by decide +kernel
theorem dX3_speakFrame_70 : decode cX3_speakFrame 70 = .ok (.getfield 82, 3) := by decide +kernel
theorem dX3_speakFrame_73 : decode cX3_speakFrame 73 = .ok (.iload_n 1, 1) := by decide +kernel
theorem dX3_speakFrame_74 : decode cX3_speakFrame 74 = .ok (.iload_n 3, 1) := by decide +kernel
theorem dX3_speakFrame_75 : decode cX3_speakFrame 75 = .ok (.aload_n 0, 1) := by decide +kernel
theorem dX3_speakFrame_76 : decode cX3_speakFrame 76 = .ok (.getfield 21, 3) := by decide +kernel
theorem dX3_speakFrame_79 : decode cX3_speakFrame 79 = .ok (.invokevirtual 207, 3) := by decide +kernel
theorem dX3_speakFrame_82 : decode cX3_speakFrame 82 = .ok (.invokevirtual 210, 3) := by decide +kernel
theorem dX3_speakFrame_85 : decode cX3_speakFrame 85 = .ok (.iinc 3 1, 3) := by decide +kernel
theorem dX3_speakFrame_88 : decode cX3_speakFrame 88 = .ok (.goto (-24), 3) := by decide +kernel
theorem dX3_speakFrame_91 : decode cX3_speakFrame 91 = .ok (.aload_n 0, 1) := by decide +kernel
theorem dX3_speakFrame_92 : decode cX3_speakFrame 92 = .ok (.dup, 1) := by decide +kernel
theorem dX3_speakFrame_93 : decode cX3_speakFrame 93 = .ok (.getfield 53, 3) := by decide +kernel
theorem dX3_speakFrame_96 : decode cX3_speakFrame 96 = .ok (.bipush 8, 2) := by decide +kernel
theorem dX3_speakFrame_98 : decode cX3_speakFrame 98 = .ok (.iload_n 2, 1) := by decide +kernel
theorem dX3_speakFrame_99 : decode cX3_speakFrame 99 = .ok (.imul, 1) := by decide +kernel
theorem dX3_speakFrame_100 : decode cX3_speakFrame 100 = .ok (.isub, 1) := by decide +kernel
theorem dX3_speakFrame_101 : decode cX3_speakFrame 101 = .ok (.putfield 53, 3) := by decide +kernel
theorem dX3_speakFrame_104 : decode cX3_speakFrame 104 = .ok (.return_, 1) := by decide +kernel
theorem dX4_init_0 : decode cX4_init 0 = .ok (.aload_n 0, 1) := by decide +kernel
theorem dX4_init_1 : decode cX4_init 1 = .ok (.invokespecial 3, 3) := by decide +kernel
theorem dX4_init_4 : decode cX4_init 4 = .ok (.aload_n 0, 1) := by decide +kernel
theorem dX4_init_5 : decode cX4_init 5 = .ok (.bipush 30, 2) := by decide +kernel
theorem dX4_init_7 : decode cX4_init 7 = .ok (.newarray .int, 2) := by decide +kernel
theorem dX4_init_9 : decode cX4_init 9 = .ok (.putfield 11, 3) := by decide +kernel
theorem dX4_init_12 : decode cX4_init 12 = .ok (.aload_n 0, 1) := by decide +kernel
theorem dX4_init_13 : decode cX4_init 13 = .ok (.iconst 0, 1) := by decide +kernel
theorem dX4_init_14 : decode cX4_init 14 = .ok (.putfield 15, 3) := by decide +kernel
theorem dX4_init_17 : decode cX4_init 17 = .ok (.return_, 1) := by decide +kernel
theorem dX4_add_0 : decode cX4_add 0 = .ok (.aload_n 0, 1) := by decide +kernel
theorem dX4_add_1 : decode cX4_add 1 = .ok (.getfield 15, 3) := by decide +kernel
theorem dX4_add_4 : decode cX4_add 4 = .ok (.ifCond .lt 32, 3) := by decide +kernel
theorem dX4_add_7 : decode cX4_add 7 = .ok (.aload_n 0, 1) := by decide +kernel
theorem dX4_add_8 : decode cX4_add 8 = .ok (.getfield 15, 3) := by decide +kernel
theorem dX4_add_11 : decode cX4_add 11 = .ok (.bipush 30, 2) := by decide +kernel
theorem dX4_add_13 : decode cX4_add 13 = .ok (.if_icmp .ge 23, 3) := by decide +kernel
theorem dX4_add_16 : decode cX4_add 16 = .ok (.aload_n 0, 1) := by decide +kernel
theorem dX4_add_17 : decode cX4_add 17 = .ok (.getfield 11, 3) := by decide +kernel
theorem dX4_add_20 : decode cX4_add 20 = .ok (.aload_n 0, 1) := by decide +kernel
theorem dX4_add_21 : decode cX4_add 21 = .ok (.getfield 15, 3) := by decide +kernel
theorem dX4_add_24 : decode cX4_add 24 = .ok (.iload_n 1, 1) := by decide +kernel
theorem dX4_add_25 : decode cX4_add 25 = .ok (.iastore, 1) := by decide +kernel
theorem dX4_add_26 : decode cX4_add 26 = .ok (.aload_n 0, 1) := by decide +kernel
theorem dX4_add_27 : decode cX4_add 27 = .ok (.dup, 1) := by decide +kernel
theorem dX4_add_28 : decode cX4_add 28 = .ok (.getfield 15, 3) := by decide +kernel
theorem dX4_add_31 : decode cX4_add 31 = .ok (.iconst 1, 1) := by decide +kernel
theorem dX4_add_32 : decode cX4_add 32 = .ok (.iadd, 1) := by decide +kernel
theorem dX4_add_33 : decode cX4_add 33 = .ok (.putfield 15, 3) := by decide +kernel
theorem dX4_add_36 : decode cX4_add 36 = .ok (.return_, 1) := by decide +kernel
theorem dX4_codeAt_0 : decode cX4_codeAt 0 = .ok (.iload_n 1, 1) := by decide +kernel
theorem dX4_codeAt_1 : decode cX4_codeAt 1 = .ok (.ifCond .lt 26, 3) := by decide +kernel
theorem dX4_codeAt_4 : decode cX4_codeAt 4 = .ok (.iload_n 1, 1) := by decide +kernel
theorem dX4_codeAt_5 : decode cX4_codeAt 5 = .ok (.aload_n 0, 1) := by decide +kernel
theorem dX4_codeAt_6 : decode cX4_codeAt 6 = .ok (.getfield 15, 3) := by decide +kernel
theorem dX4_codeAt_9 : decode cX4_codeAt 9 = .ok (.if_icmp .ge 18, 3) := by decide +kernel
theorem dX4_codeAt_12 : decode cX4_codeAt 12 = .ok (.iload_n 1, 1) := by decide +kernel
theorem dX4_codeAt_13 : decode cX4_codeAt 13 = .ok (.bipush 30, 2) := by decide +kernel
theorem dX4_codeAt_15 : decode cX4_codeAt 15 = .ok (.if_icmp .ge 12, 3) := by decide +kernel
theorem dX4_codeAt_18 : decode cX4_codeAt 18 = .ok (.aload_n 0, 1) := by decide +kernel
theorem dX4_codeAt_19 : decode cX4_codeAt 19 = .ok (.getfield 11, 3) := by decide +kernel
theorem dX4_codeAt_22 : decode cX4_codeAt 22 = .ok (.iload_n 1, 1) := by decide +kernel
theorem dX4_codeAt_23 : decode cX4_codeAt 23 = .ok (.iaload, 1) := by decide +kernel
theorem dX4_codeAt_24 : decode cX4_codeAt 24 = .ok (.goto 4, 3) := by decide +kernel
theorem dX4_codeAt_27 : decode cX4_codeAt 27 = .ok (.iconst 0, 1) := by decide +kernel
theorem dX4_codeAt_28 : decode cX4_codeAt 28 = .ok (.ireturn, 1) := by decide +kernel
set_option maxRecDepth 20000 in
theorem ggX4_firstFault_X4_fits : GoodIn wsX4_firstFault wsX4_fits := goodIn_r _ [6, 7, 8, 9, 5, 10, 1, 11, 12, 13, 14, 15, 16, 17, 18, 19, 20, 21, 22, 23, 24, 25, 26, 27, 28, 29] (by decide +kernel) (by decide +kernel)
set_option maxRecDepth 20000 in
theorem gX4_firstFault_X4_fits : GoodIn wsX4_firstFault (wsV RX4 19 RX4 yX4_fits wsX4_fits) := goodIn_app (goodIn_of _ (by decide +kernel)) ggX4_firstFault_X4_fits
theorem dX4_firstFault_0 : decode cX4_firstFault 0 = .ok (.iconst 0, 1) := by decide +kernel
theorem dX4_firstFault_1 : decode cX4_firstFault 1 = .ok (.istore_n 1, 1) := by decide +kernel
theorem dX4_firstFault_2 : decode cX4_firstFault 2 = .ok (.iload_n 1, 1) := by decide +kernel
theorem dX4_firstFault_3 : decode cX4_firstFault 3 = .ok (.aload_n 0, 1) := by decide +kernel
theorem dX4_firstFault_4 : decode cX4_firstFault 4 = .ok (.getfield 15, 3) := by decide +kernel
theorem dX4_firstFault_7 : decode cX4_firstFault 7 = .ok (.if_icmp .ge 19, 3) := by decide +kernel
theorem dX4_firstFault_10 : decode cX4_firstFault 10 = .ok (.aload_n 0, 1) := by decide +kernel
theorem dX4_firstFault_11 : decode cX4_firstFault 11 = .ok (.iload_n 1, 1) := by decide +kernel
theorem dX4_firstFault_12 : decode cX4_firstFault 12 = .ok (.invokevirtual 19, 3) := by decide +kernel
theorem dX4_firstFault_15 : decode cX4_firstFault 15 = .ok (.ifCond .ne 5, 3) := by decide +kernel
theorem dX4_firstFault_18 : decode cX4_firstFault 18 = .ok (.iload_n 1, 1) := by decide +kernel
theorem dX4_firstFault_19 : decode cX4_firstFault 19 = .ok (.ireturn, 1) := by decide +kernel
theorem dX4_firstFault_20 : decode cX4_firstFault 20 = .ok (.iinc 1 1, 3) := by decide +kernel
theorem dX4_firstFault_23 : decode cX4_firstFault 23 = .ok (.goto (-21), 3) := by decide +kernel
theorem dX4_firstFault_26 : decode cX4_firstFault 26 = .ok (.aload_n 0, 1) := by decide +kernel
theorem dX4_firstFault_27 : decode cX4_firstFault 27 = .ok (.getfield 15, 3) := by decide +kernel
theorem dX4_firstFault_30 : decode cX4_firstFault 30 = .ok (.ireturn, 1) := by decide +kernel
set_option maxRecDepth 20000 in
theorem ggX4_isLine_X4_firstFault : GoodIn wsX4_isLine wsX4_firstFault := goodIn_r _ [6, 1, 7, 8, 9, 5, 10, 11, 12, 13, 14, 15, 16, 17, 18, 19, 20, 21, 22, 23, 24, 25, 26, 27, 28, 29, 30, 31, 32, 33] (by decide +kernel) (by decide +kernel)
set_option maxRecDepth 20000 in
theorem gX4_isLine_X4_firstFault : GoodIn wsX4_isLine (wsV RX4 23 RX4 yX4_firstFault wsX4_firstFault) := goodIn_app (goodIn_of _ (by decide +kernel)) ggX4_isLine_X4_firstFault
set_option maxRecDepth 20000 in
theorem ggX4_isLine_X4_commaAhead : GoodIn wsX4_isLine wsX4_commaAhead := goodIn_r _ [27, 11, 12, 13, 5, 14, 1, 15, 32, 33] (by decide +kernel) (by decide +kernel)
set_option maxRecDepth 20000 in
theorem gX4_isLine_X4_commaAhead : GoodIn wsX4_isLine (wsV RX4 27 RX4 yX4_commaAhead wsX4_commaAhead) := goodIn_app (goodIn_of _ (by decide +kernel)) ggX4_isLine_X4_commaAhead
theorem dX4_isLine_0 : decode cX4_isLine 0 = .ok (.aload_n 0, 1) := by decide +kernel
theorem dX4_isLine_1 : decode cX4_isLine 1 = .ok (.invokevirtual 23, 3) := by decide +kernel
theorem dX4_isLine_4 : decode cX4_isLine 4 = .ok (.aload_n 0, 1) := by decide +kernel
theorem dX4_isLine_5 : decode cX4_isLine 5 = .ok (.getfield 15, 3) := by decide +kernel
theorem dX4_isLine_8 : decode cX4_isLine 8 = .ok (.if_icmp .ge 5, 3) := by decide +kernel
theorem dX4_isLine_11 : decode cX4_isLine 11 = .ok (.iconst 0, 1) := by decide +kernel
theorem dX4_isLine_12 : decode cX4_isLine 12 = .ok (.ireturn, 1) := by decide +kernel
theorem dX4_isLine_13 : decode cX4_isLine 13 = .ok (.aload_n 0, 1) := by decide +kernel
theorem dX4_isLine_14 : decode cX4_isLine 14 = .ok (.aload_n 0, 1) := by decide +kernel
theorem dX4_isLine_15 : decode cX4_isLine 15 = .ok (.getfield 15, 3) := by decide +kernel
theorem dX4_isLine_18 : decode cX4_isLine 18 = .ok (.invokevirtual 27, 3) := by decide +kernel
theorem dX4_isLine_21 : decode cX4_isLine 21 = .ok (.istore_n 1, 1) := by decide +kernel
theorem dX4_isLine_22 : decode cX4_isLine 22 = .ok (.aload_n 0, 1) := by decide +kernel
theorem dX4_isLine_23 : decode cX4_isLine 23 = .ok (.getfield 15, 3) := by decide +kernel
theorem dX4_isLine_26 : decode cX4_isLine 26 = .ok (.bipush 19, 2) := by decide +kernel
theorem dX4_isLine_28 : decode cX4_isLine 28 = .ok (.if_icmp .eq 17, 3) := by decide +kernel
theorem dX4_isLine_31 : decode cX4_isLine 31 = .ok (.iload_n 1, 1) := by decide +kernel
theorem dX4_isLine_32 : decode cX4_isLine 32 = .ok (.ifCond .lt 17, 3) := by decide +kernel
theorem dX4_isLine_35 : decode cX4_isLine 35 = .ok (.aload_n 0, 1) := by decide +kernel
theorem dX4_isLine_36 : decode cX4_isLine 36 = .ok (.getfield 15, 3) := by decide +kernel
theorem dX4_isLine_39 : decode cX4_isLine 39 = .ok (.iload_n 1, 1) := by decide +kernel
theorem dX4_isLine_40 : decode cX4_isLine 40 = .ok (.iconst 1, 1) := by decide +kernel
theorem dX4_isLine_41 : decode cX4_isLine 41 = .ok (.iadd, 1) := by decide +kernel
theorem dX4_isLine_42 : decode cX4_isLine 42 = .ok (.if_icmp .le 7, 3) := by decide +kernel
theorem dX4_isLine_45 : decode cX4_isLine 45 = .ok (.iconst 1, 1) := by decide +kernel
theorem dX4_isLine_46 : decode cX4_isLine 46 = .ok (.goto 4, 3) := by decide +kernel
theorem dX4_isLine_49 : decode cX4_isLine 49 = .ok (.iconst 0, 1) := by decide +kernel
theorem dX4_isLine_50 : decode cX4_isLine 50 = .ok (.ireturn, 1) := by decide +kernel
set_option maxRecDepth 20000 in
theorem ggX4_qualityAt_X4_codeAt : GoodIn wsX4_qualityAt wsX4_codeAt := goodIn_r _ [5, 6, 7, 12, 13] (by decide +kernel) (by decide +kernel)
set_option maxRecDepth 20000 in
theorem gX4_qualityAt_X4_codeAt : GoodIn wsX4_qualityAt (wsV RX4 31 RX4 yX4_codeAt wsX4_codeAt) := goodIn_app (goodIn_of _ (by decide +kernel)) ggX4_qualityAt_X4_codeAt
set_option maxRecDepth 20000 in
theorem ggX4_qualityAt_X4_figure : GoodIn wsX4_qualityAt wsX4_figure := goodIn_r _ [11] (by decide +kernel) (by decide +kernel)
set_option maxRecDepth 20000 in
theorem gX4_qualityAt_X4_figure : GoodIn wsX4_qualityAt (wsV RX4 34 RX4 yX4_figure wsX4_figure) := goodIn_app (goodIn_of _ (by decide +kernel)) ggX4_qualityAt_X4_figure
theorem dX4_qualityAt_0 : decode cX4_qualityAt 0 = .ok (.aload_n 0, 1) := by decide +kernel
theorem dX4_qualityAt_1 : decode cX4_qualityAt 1 = .ok (.aload_n 0, 1) := by decide +kernel
theorem dX4_qualityAt_2 : decode cX4_qualityAt 2 = .ok (.bipush 9, 2) := by decide +kernel
theorem dX4_qualityAt_4 : decode cX4_qualityAt 4 = .ok (.iload_n 1, 1) := by decide +kernel
theorem dX4_qualityAt_5 : decode cX4_qualityAt 5 = .ok (.imul, 1) := by decide +kernel
theorem dX4_qualityAt_6 : decode cX4_qualityAt 6 = .ok (.iload_n 2, 1) := by decide +kernel
theorem dX4_qualityAt_7 : decode cX4_qualityAt 7 = .ok (.iadd, 1) := by decide +kernel
theorem dX4_qualityAt_8 : decode cX4_qualityAt 8 = .ok (.invokevirtual 31, 3) := by decide +kernel
theorem dX4_qualityAt_11 : decode cX4_qualityAt 11 = .ok (.invokevirtual 34, 3) := by decide +kernel
theorem dX4_qualityAt_14 : decode cX4_qualityAt 14 = .ok (.ireturn, 1) := by decide +kernel
set_option maxRecDepth 20000 in
theorem ggX4_delay_X4_codeAt : GoodIn wsX4_delay wsX4_codeAt := goodIn_r _ [5, 6, 7, 8, 9] (by decide +kernel) (by decide +kernel)
set_option maxRecDepth 20000 in
theorem gX4_delay_X4_codeAt : GoodIn wsX4_delay (wsV RX4 31 RX4 yX4_codeAt wsX4_codeAt) := goodIn_app (goodIn_of _ (by decide +kernel)) ggX4_delay_X4_codeAt
theorem dX4_delay_0 : decode cX4_delay 0 = .ok (.aload_n 0, 1) := by decide +kernel
theorem dX4_delay_1 : decode cX4_delay 1 = .ok (.bipush 18, 2) := by decide +kernel
theorem dX4_delay_3 : decode cX4_delay 3 = .ok (.invokevirtual 31, 3) := by decide +kernel
theorem dX4_delay_6 : decode cX4_delay 6 = .ok (.bipush 48, 2) := by decide +kernel
theorem dX4_delay_8 : decode cX4_delay 8 = .ok (.isub, 1) := by decide +kernel
theorem dX4_delay_9 : decode cX4_delay 9 = .ok (.ireturn, 1) := by decide +kernel
set_option maxRecDepth 20000 in
theorem ggX4_hurtOf_X4_commaAhead : GoodIn wsX4_hurtOf wsX4_commaAhead := goodIn_r _ [6, 7, 8, 9, 5, 10, 1, 11, 16, 17] (by decide +kernel) (by decide +kernel)
set_option maxRecDepth 20000 in
theorem gX4_hurtOf_X4_commaAhead : GoodIn wsX4_hurtOf (wsV RX4 27 RX4 yX4_commaAhead wsX4_commaAhead) := goodIn_app (goodIn_of _ (by decide +kernel)) ggX4_hurtOf_X4_commaAhead
set_option maxRecDepth 20000 in
theorem ggX4_hurtOf_X4_number : GoodIn wsX4_hurtOf wsX4_number := goodIn_r _ [15, 7, 8, 9, 5, 10, 1, 11, 16, 17] (by decide +kernel) (by decide +kernel)
set_option maxRecDepth 20000 in
theorem gX4_hurtOf_X4_number : GoodIn wsX4_hurtOf (wsV RX4 37 RX4 yX4_number wsX4_number) := goodIn_app (goodIn_of _ (by decide +kernel)) ggX4_hurtOf_X4_number
theorem dX4_hurtOf_0 : decode cX4_hurtOf 0 = .ok (.aload_n 0, 1) := by decide +kernel
theorem dX4_hurtOf_1 : decode cX4_hurtOf 1 = .ok (.aload_n 0, 1) := by decide +kernel
theorem dX4_hurtOf_2 : decode cX4_hurtOf 2 = .ok (.getfield 15, 3) := by decide +kernel
theorem dX4_hurtOf_5 : decode cX4_hurtOf 5 = .ok (.invokevirtual 27, 3) := by decide +kernel
theorem dX4_hurtOf_8 : decode cX4_hurtOf 8 = .ok (.istore_n 2, 1) := by decide +kernel
theorem dX4_hurtOf_9 : decode cX4_hurtOf 9 = .ok (.iload_n 2, 1) := by decide +kernel
theorem dX4_hurtOf_10 : decode cX4_hurtOf 10 = .ok (.ifCond .ge 5, 3) := by decide +kernel
theorem dX4_hurtOf_13 : decode cX4_hurtOf 13 = .ok (.iconst 0, 1) := by decide +kernel
theorem dX4_hurtOf_14 : decode cX4_hurtOf 14 = .ok (.ireturn, 1) := by decide +kernel
theorem dX4_hurtOf_15 : decode cX4_hurtOf 15 = .ok (.iload_n 1, 1) := by decide +kernel
theorem dX4_hurtOf_16 : decode cX4_hurtOf 16 = .ok (.ifCond .ne 13, 3) := by decide +kernel
theorem dX4_hurtOf_19 : decode cX4_hurtOf 19 = .ok (.aload_n 0, 1) := by decide +kernel
theorem dX4_hurtOf_20 : decode cX4_hurtOf 20 = .ok (.bipush 20, 2) := by decide +kernel
theorem dX4_hurtOf_22 : decode cX4_hurtOf 22 = .ok (.iload_n 2, 1) := by decide +kernel
theorem dX4_hurtOf_23 : decode cX4_hurtOf 23 = .ok (.invokevirtual 37, 3) := by decide +kernel
theorem dX4_hurtOf_26 : decode cX4_hurtOf 26 = .ok (.goto 14, 3) := by decide +kernel
theorem dX4_hurtOf_29 : decode cX4_hurtOf 29 = .ok (.aload_n 0, 1) := by decide +kernel
theorem dX4_hurtOf_30 : decode cX4_hurtOf 30 = .ok (.iload_n 2, 1) := by decide +kernel
theorem dX4_hurtOf_31 : decode cX4_hurtOf 31 = .ok (.iconst 1, 1) := by decide +kernel
theorem dX4_hurtOf_32 : decode cX4_hurtOf 32 = .ok (.iadd, 1) := by decide +kernel
theorem dX4_hurtOf_33 : decode cX4_hurtOf 33 = .ok (.aload_n 0, 1) := by decide +kernel
theorem dX4_hurtOf_34 : decode cX4_hurtOf 34 = .ok (.getfield 15, 3) := by decide +kernel
theorem dX4_hurtOf_37 : decode cX4_hurtOf 37 = .ok (.invokevirtual 37, 3) := by decide +kernel
theorem dX4_hurtOf_40 : decode cX4_hurtOf 40 = .ok (.ireturn, 1) := by decide +kernel
set_option maxRecDepth 20000 in
theorem ggX4_fits_X4_codeAt : GoodIn wsX4_fits wsX4_codeAt := goodIn_r _ [5, 6, 7, 24, 25] (by decide +kernel) (by decide +kernel)
set_option maxRecDepth 20000 in
theorem gX4_fits_X4_codeAt : GoodIn wsX4_fits (wsV RX4 31 RX4 yX4_codeAt wsX4_codeAt) := goodIn_app (goodIn_of _ (by decide +kernel)) ggX4_fits_X4_codeAt
set_option maxRecDepth 20000 in
theorem ggX4_fits_X4_figure : GoodIn wsX4_fits wsX4_figure := goodIn_r _ [11] (by decide +kernel) (by decide +kernel)
set_option maxRecDepth 20000 in
theorem gX4_fits_X4_figure : GoodIn wsX4_fits (wsV RX4 34 RX4 yX4_figure wsX4_figure) := goodIn_app (goodIn_of _ (by decide +kernel)) ggX4_fits_X4_figure
set_option maxRecDepth 20000 in
theorem ggX4_fits_X4_fitsHurt : GoodIn wsX4_fits wsX4_fitsHurt := goodIn_r _ [15, 16, 17, 18, 4, 19, 1, 2, 3, 5, 6, 7, 20, 21, 22, 23, 24, 25] (by decide +kernel) (by decide +kernel)
set_option maxRecDepth 20000 in
theorem gX4_fits_X4_fitsHurt : GoodIn wsX4_fits (wsV RX4 41 RX4 yX4_fitsHurt wsX4_fitsHurt) := goodIn_app (goodIn_of _ (by decide +kernel)) ggX4_fits_X4_fitsHurt
theorem dX4_fits_0 : decode cX4_fits 0 = .ok (.aload_n 0, 1) := by decide +kernel
theorem dX4_fits_1 : decode cX4_fits 1 = .ok (.iload_n 1, 1) := by decide +kernel
theorem dX4_fits_2 : decode cX4_fits 2 = .ok (.invokevirtual 31, 3) := by decide +kernel
theorem dX4_fits_5 : decode cX4_fits 5 = .ok (.istore_n 2, 1) := by decide +kernel
theorem dX4_fits_6 : decode cX4_fits 6 = .ok (.iload_n 1, 1) := by decide +kernel
theorem dX4_fits_7 : decode cX4_fits 7 = .ok (.lookupswitch 95 #[(8, 41), (17, 53), (18, 65), (19, 83)], 41) := by decide +kernel
theorem dX4_fits_48 : decode cX4_fits 48 = .ok (.iload_n 2, 1) := by decide +kernel
theorem dX4_fits_49 : decode cX4_fits 49 = .ok (.bipush 47, 2) := by decide +kernel
theorem dX4_fits_51 : decode cX4_fits 51 = .ok (.if_icmp .ne 7, 3) := by decide +kernel
theorem dX4_fits_54 : decode cX4_fits 54 = .ok (.iconst 1, 1) := by decide +kernel
theorem dX4_fits_55 : decode cX4_fits 55 = .ok (.goto 4, 3) := by decide +kernel
theorem dX4_fits_58 : decode cX4_fits 58 = .ok (.iconst 0, 1) := by decide +kernel
theorem dX4_fits_59 : decode cX4_fits 59 = .ok (.ireturn, 1) := by decide +kernel
theorem dX4_fits_60 : decode cX4_fits 60 = .ok (.iload_n 2, 1) := by decide +kernel
theorem dX4_fits_61 : decode cX4_fits 61 = .ok (.bipush 59, 2) := by decide +kernel
theorem dX4_fits_63 : decode cX4_fits 63 = .ok (.if_icmp .ne 7, 3) := by decide +kernel
theorem dX4_fits_66 : decode cX4_fits 66 = .ok (.iconst 1, 1) := by decide +kernel
theorem dX4_fits_67 : decode cX4_fits 67 = .ok (.goto 4, 3) := by decide +kernel
theorem dX4_fits_70 : decode cX4_fits 70 = .ok (.iconst 0, 1) := by decide +kernel
theorem dX4_fits_71 : decode cX4_fits 71 = .ok (.ireturn, 1) := by decide +kernel
theorem dX4_fits_72 : decode cX4_fits 72 = .ok (.iload_n 2, 1) := by decide +kernel
theorem dX4_fits_73 : decode cX4_fits 73 = .ok (.bipush 49, 2) := by decide +kernel
theorem dX4_fits_75 : decode cX4_fits 75 = .ok (.if_icmp .lt 13, 3) := by decide +kernel
theorem dX4_fits_78 : decode cX4_fits 78 = .ok (.iload_n 2, 1) := by decide +kernel
theorem dX4_fits_79 : decode cX4_fits 79 = .ok (.bipush 56, 2) := by decide +kernel
theorem dX4_fits_81 : decode cX4_fits 81 = .ok (.if_icmp .gt 7, 3) := by decide +kernel
theorem dX4_fits_84 : decode cX4_fits 84 = .ok (.iconst 1, 1) := by decide +kernel
theorem dX4_fits_85 : decode cX4_fits 85 = .ok (.goto 4, 3) := by decide +kernel
theorem dX4_fits_88 : decode cX4_fits 88 = .ok (.iconst 0, 1) := by decide +kernel
theorem dX4_fits_89 : decode cX4_fits 89 = .ok (.ireturn, 1) := by decide +kernel
theorem dX4_fits_90 : decode cX4_fits 90 = .ok (.iload_n 2, 1) := by decide +kernel
theorem dX4_fits_91 : decode cX4_fits 91 = .ok (.bipush 104, 2) := by decide +kernel
theorem dX4_fits_93 : decode cX4_fits 93 = .ok (.if_icmp .ne 7, 3) := by decide +kernel
theorem dX4_fits_96 : decode cX4_fits 96 = .ok (.iconst 1, 1) := by decide +kernel
theorem dX4_fits_97 : decode cX4_fits 97 = .ok (.goto 4, 3) := by decide +kernel
theorem dX4_fits_100 : decode cX4_fits 100 = .ok (.iconst 0, 1) := by decide +kernel
theorem dX4_fits_101 : decode cX4_fits 101 = .ok (.ireturn, 1) := by decide +kernel
theorem dX4_fits_102 : decode cX4_fits 102 = .ok (.iload_n 1, 1) := by decide +kernel
theorem dX4_fits_103 : decode cX4_fits 103 = .ok (.bipush 17, 2) := by decide +kernel
theorem dX4_fits_105 : decode cX4_fits 105 = .ok (.if_icmp .ge 19, 3) := by decide +kernel
theorem dX4_fits_108 : decode cX4_fits 108 = .ok (.aload_n 0, 1) := by decide +kernel
theorem dX4_fits_109 : decode cX4_fits 109 = .ok (.iload_n 2, 1) := by decide +kernel
theorem dX4_fits_110 : decode cX4_fits 110 = .ok (.invokevirtual 34, 3) := by decide +kernel
theorem dX4_fits_113 : decode cX4_fits 113 = .ok (.ifCond .lt 7, 3) := by decide +kernel
theorem dX4_fits_116 : decode cX4_fits 116 = .ok (.iconst 1, 1) := by decide +kernel
theorem dX4_fits_117 : decode cX4_fits 117 = .ok (.goto 13, 3) := by decide +kernel
theorem dX4_fits_120 : decode cX4_fits 120 = .ok (.iconst 0, 1) := by decide +kernel
theorem dX4_fits_121 : decode cX4_fits 121 = .ok (.goto 9, 3) := by decide +kernel
theorem dX4_fits_124 : decode cX4_fits 124 = .ok (.aload_n 0, 1) := by decide +kernel
theorem dX4_fits_125 : decode cX4_fits 125 = .ok (.iload_n 1, 1) := by decide +kernel
theorem dX4_fits_126 : decode cX4_fits 126 = .ok (.iload_n 2, 1) := by decide +kernel
theorem dX4_fits_127 : decode cX4_fits 127 = .ok (.invokevirtual 41, 3) := by decide +kernel
theorem dX4_fits_130 : decode cX4_fits 130 = .ok (.ireturn, 1) := by decide +kernel
set_option maxRecDepth 20000 in
theorem ggX4_fitsHurt_X4_commaAhead : GoodIn wsX4_fitsHurt wsX4_commaAhead := goodIn_r _ [5, 6, 7, 8, 4, 9, 10, 11, 16, 17] (by decide +kernel) (by decide +kernel)
set_option maxRecDepth 20000 in
theorem gX4_fitsHurt_X4_commaAhead : GoodIn wsX4_fitsHurt (wsV RX4 27 RX4 yX4_commaAhead wsX4_commaAhead) := goodIn_app (goodIn_of _ (by decide +kernel)) ggX4_fitsHurt_X4_commaAhead
set_option maxRecDepth 20000 in
theorem ggX4_fitsHurt_X4_number : GoodIn wsX4_fitsHurt wsX4_number := goodIn_r _ [15, 6, 7, 8, 4, 9, 10, 11, 16, 17] (by decide +kernel) (by decide +kernel)
set_option maxRecDepth 20000 in
theorem gX4_fitsHurt_X4_number : GoodIn wsX4_fitsHurt (wsV RX4 37 RX4 yX4_number wsX4_number) := goodIn_app (goodIn_of _ (by decide +kernel)) ggX4_fitsHurt_X4_number
theorem dX4_fitsHurt_0 : decode cX4_fitsHurt 0 = .ok (.aload_n 0, 1) := by decide +kernel
theorem dX4_fitsHurt_1 : decode cX4_fitsHurt 1 = .ok (.iload_n 1, 1) := by decide +kernel
theorem dX4_fitsHurt_2 : decode cX4_fitsHurt 2 = .ok (.invokevirtual 27, 3) := by decide +kernel
theorem dX4_fitsHurt_5 : decode cX4_fitsHurt 5 = .ok (.istore_n 3, 1) := by decide +kernel
theorem dX4_fitsHurt_6 : decode cX4_fitsHurt 6 = .ok (.iload_n 3, 1) := by decide +kernel
theorem dX4_fitsHurt_7 : decode cX4_fitsHurt 7 = .ok (.ifCond .ge 8, 3) := by decide +kernel
theorem dX4_fitsHurt_10 : decode cX4_fitsHurt 10 = .ok (.bipush 20, 2) := by decide +kernel
theorem dX4_fitsHurt_12 : decode cX4_fitsHurt 12 = .ok (.goto 6, 3) := by decide +kernel
theorem dX4_fitsHurt_15 : decode cX4_fitsHurt 15 = .ok (.iload_n 3, 1) := by decide +kernel
theorem dX4_fitsHurt_16 : decode cX4_fitsHurt 16 = .ok (.iconst 1, 1) := by decide +kernel
theorem dX4_fitsHurt_17 : decode cX4_fitsHurt 17 = .ok (.iadd, 1) := by decide +kernel
theorem dX4_fitsHurt_18 : decode cX4_fitsHurt 18 = .ok (.istore 4, 2) := by decide +kernel
theorem dX4_fitsHurt_20 : decode cX4_fitsHurt 20 = .ok (.iload_n 2, 1) := by decide +kernel
theorem dX4_fitsHurt_21 : decode cX4_fitsHurt 21 = .ok (.bipush 44, 2) := by decide +kernel
theorem dX4_fitsHurt_23 : decode cX4_fitsHurt 23 = .ok (.if_icmp .ne 19, 3) := by decide +kernel
theorem dX4_fitsHurt_26 : decode cX4_fitsHurt 26 = .ok (.iload_n 3, 1) := by decide +kernel
theorem dX4_fitsHurt_27 : decode cX4_fitsHurt 27 = .ok (.ifCond .ge 13, 3) := by decide +kernel
theorem dX4_fitsHurt_30 : decode cX4_fitsHurt 30 = .ok (.iload_n 1, 1) := by decide +kernel
theorem dX4_fitsHurt_31 : decode cX4_fitsHurt 31 = .ok (.iload 4, 2) := by decide +kernel
theorem dX4_fitsHurt_33 : decode cX4_fitsHurt 33 = .ok (.if_icmp .le 7, 3) := by decide +kernel
theorem dX4_fitsHurt_36 : decode cX4_fitsHurt 36 = .ok (.iconst 1, 1) := by decide +kernel
theorem dX4_fitsHurt_37 : decode cX4_fitsHurt 37 = .ok (.goto 4, 3) := by decide +kernel
theorem dX4_fitsHurt_40 : decode cX4_fitsHurt 40 = .ok (.iconst 0, 1) := by decide +kernel
theorem dX4_fitsHurt_41 : decode cX4_fitsHurt 41 = .ok (.ireturn, 1) := by decide +kernel
theorem dX4_fitsHurt_42 : decode cX4_fitsHurt 42 = .ok (.iload_n 2, 1) := by decide +kernel
theorem dX4_fitsHurt_43 : decode cX4_fitsHurt 43 = .ok (.bipush 48, 2) := by decide +kernel
theorem dX4_fitsHurt_45 : decode cX4_fitsHurt 45 = .ok (.if_icmp .lt 9, 3) := by decide +kernel
theorem dX4_fitsHurt_48 : decode cX4_fitsHurt 48 = .ok (.iload_n 2, 1) := by decide +kernel
theorem dX4_fitsHurt_49 : decode cX4_fitsHurt 49 = .ok (.bipush 57, 2) := by decide +kernel
theorem dX4_fitsHurt_51 : decode cX4_fitsHurt 51 = .ok (.if_icmp .le 5, 3) := by decide +kernel
theorem dX4_fitsHurt_54 : decode cX4_fitsHurt 54 = .ok (.iconst 0, 1) := by decide +kernel
theorem dX4_fitsHurt_55 : decode cX4_fitsHurt 55 = .ok (.ireturn, 1) := by decide +kernel
theorem dX4_fitsHurt_56 : decode cX4_fitsHurt 56 = .ok (.iload_n 1, 1) := by decide +kernel
theorem dX4_fitsHurt_57 : decode cX4_fitsHurt 57 = .ok (.iload 4, 2) := by decide +kernel
theorem dX4_fitsHurt_59 : decode cX4_fitsHurt 59 = .ok (.if_icmp .ne 5, 3) := by decide +kernel
theorem dX4_fitsHurt_62 : decode cX4_fitsHurt 62 = .ok (.iconst 1, 1) := by decide +kernel
theorem dX4_fitsHurt_63 : decode cX4_fitsHurt 63 = .ok (.ireturn, 1) := by decide +kernel
theorem dX4_fitsHurt_64 : decode cX4_fitsHurt 64 = .ok (.aload_n 0, 1) := by decide +kernel
theorem dX4_fitsHurt_65 : decode cX4_fitsHurt 65 = .ok (.iload 4, 2) := by decide +kernel
theorem dX4_fitsHurt_67 : decode cX4_fitsHurt 67 = .ok (.iload_n 1, 1) := by decide +kernel
theorem dX4_fitsHurt_68 : decode cX4_fitsHurt 68 = .ok (.invokevirtual 37, 3) := by decide +kernel
theorem dX4_fitsHurt_71 : decode cX4_fitsHurt 71 = .ok (.istore 5, 2) := by decide +kernel
theorem dX4_fitsHurt_73 : decode cX4_fitsHurt 73 = .ok (.iload 5, 2) := by decide +kernel
theorem dX4_fitsHurt_75 : decode cX4_fitsHurt 75 = .ok (.ifCond .le 22, 3) := by decide +kernel
theorem dX4_fitsHurt_78 : decode cX4_fitsHurt 78 = .ok (.iload 5, 2) := by decide +kernel
theorem dX4_fitsHurt_80 : decode cX4_fitsHurt 80 = .ok (.bipush 10, 2) := by decide +kernel
theorem dX4_fitsHurt_82 : decode cX4_fitsHurt 82 = .ok (.imul, 1) := by decide +kernel
theorem dX4_fitsHurt_83 : decode cX4_fitsHurt 83 = .ok (.iload_n 2, 1) := by decide +kernel
theorem dX4_fitsHurt_84 : decode cX4_fitsHurt 84 = .ok (.bipush 48, 2) := by decide +kernel
theorem dX4_fitsHurt_86 : decode cX4_fitsHurt 86 = .ok (.isub, 1) := by decide +kernel
theorem dX4_fitsHurt_87 : decode cX4_fitsHurt 87 = .ok (.iadd, 1) := by decide +kernel
theorem dX4_fitsHurt_88 : decode cX4_fitsHurt 88 = .ok (.bipush 50, 2) := by decide +kernel
theorem dX4_fitsHurt_90 : decode cX4_fitsHurt 90 = .ok (.if_icmp .gt 7, 3) := by decide +kernel
theorem dX4_fitsHurt_93 : decode cX4_fitsHurt 93 = .ok (.iconst 1, 1) := by decide +kernel
theorem dX4_fitsHurt_94 : decode cX4_fitsHurt 94 = .ok (.goto 4, 3) := by decide +kernel
theorem dX4_fitsHurt_97 : decode cX4_fitsHurt 97 = .ok (.iconst 0, 1) := by decide +kernel
theorem dX4_fitsHurt_98 : decode cX4_fitsHurt 98 = .ok (.ireturn, 1) := by decide +kernel
set_option maxRecDepth 20000 in
theorem ggX4_commaAhead_X4_codeAt : GoodIn wsX4_commaAhead wsX4_codeAt := goodIn_r _ [5, 6, 7, 8, 9] (by decide +kernel) (by decide +kernel)
set_option maxRecDepth 20000 in
theorem gX4_commaAhead_X4_codeAt : GoodIn wsX4_commaAhead (wsV RX4 31 RX4 yX4_codeAt wsX4_codeAt) := goodIn_app (goodIn_of _ (by decide +kernel)) ggX4_commaAhead_X4_codeAt
theorem dX4_commaAhead_0 : decode cX4_commaAhead 0 = .ok (.bipush 20, 2) := by decide +kernel
theorem dX4_commaAhead_2 : decode cX4_commaAhead 2 = .ok (.istore_n 2, 1) := by decide +kernel
theorem dX4_commaAhead_3 : decode cX4_commaAhead 3 = .ok (.iload_n 2, 1) := by decide +kernel
theorem dX4_commaAhead_4 : decode cX4_commaAhead 4 = .ok (.iload_n 1, 1) := by decide +kernel
theorem dX4_commaAhead_5 : decode cX4_commaAhead 5 = .ok (.if_icmp .ge 21, 3) := by decide +kernel
theorem dX4_commaAhead_8 : decode cX4_commaAhead 8 = .ok (.aload_n 0, 1) := by decide +kernel
theorem dX4_commaAhead_9 : decode cX4_commaAhead 9 = .ok (.iload_n 2, 1) := by decide +kernel
theorem dX4_commaAhead_10 : decode cX4_commaAhead 10 = .ok (.invokevirtual 31, 3) := by decide +kernel
theorem dX4_commaAhead_13 : decode cX4_commaAhead 13 = .ok (.bipush 44, 2) := by decide +kernel
theorem dX4_commaAhead_15 : decode cX4_commaAhead 15 = .ok (.if_icmp .ne 5, 3) := by decide +kernel
theorem dX4_commaAhead_18 : decode cX4_commaAhead 18 = .ok (.iload_n 2, 1) := by decide +kernel
theorem dX4_commaAhead_19 : decode cX4_commaAhead 19 = .ok (.ireturn, 1) := by decide +kernel
theorem dX4_commaAhead_20 : decode cX4_commaAhead 20 = .ok (.iinc 2 1, 3) := by decide +kernel
theorem dX4_commaAhead_23 : decode cX4_commaAhead 23 = .ok (.goto (-20), 3) := by decide +kernel
theorem dX4_commaAhead_26 : decode cX4_commaAhead 26 = .ok (.iconst (-1), 1) := by decide +kernel
theorem dX4_commaAhead_27 : decode cX4_commaAhead 27 = .ok (.ireturn, 1) := by decide +kernel
set_option maxRecDepth 20000 in
theorem ggX4_number_X4_codeAt : GoodIn wsX4_number wsX4_codeAt := goodIn_r _ [5, 6, 7, 8, 9] (by decide +kernel) (by decide +kernel)
set_option maxRecDepth 20000 in
theorem gX4_number_X4_codeAt : GoodIn wsX4_number (wsV RX4 31 RX4 yX4_codeAt wsX4_codeAt) := goodIn_app (goodIn_of _ (by decide +kernel)) ggX4_number_X4_codeAt
theorem dX4_number_0 : decode cX4_number 0 = .ok (.iconst 0, 1) := by decide +kernel
theorem dX4_number_1 : decode cX4_number 1 = .ok (.istore_n 3, 1) := by decide +kernel
theorem dX4_number_2 : decode cX4_number 2 = .ok (.iload_n 1, 1) := by decide +kernel
theorem dX4_number_3 : decode cX4_number 3 = .ok (.istore 4, 2) := by decide +kernel
theorem dX4_number_5 : decode cX4_number 5 = .ok (.iload 4, 2) := by decide +kernel
theorem dX4_number_7 : decode cX4_number 7 = .ok (.iload_n 2, 1) := by decide +kernel
theorem dX4_number_8 : decode cX4_number 8 = .ok (.if_icmp .ge 24, 3) := by decide +kernel
theorem dX4_number_11 : decode cX4_number 11 = .ok (.iload_n 3, 1) := by decide +kernel
theorem dX4_number_12 : decode cX4_number 12 = .ok (.bipush 10, 2) := by decide +kernel
theorem dX4_number_14 : decode cX4_number 14 = .ok (.imul, 1) := by decide +kernel
theorem dX4_number_15 : decode cX4_number 15 = .ok (.aload_n 0, 1) := by decide +kernel
theorem dX4_number_16 : decode cX4_number 16 = .ok (.iload 4, 2) := by decide +kernel
theorem dX4_number_18 : decode cX4_number 18 = .ok (.invokevirtual 31, 3) := by decide +kernel
theorem dX4_number_21 : decode cX4_number 21 = .ok (.bipush 48, 2) := by decide +kernel
theorem dX4_number_23 : decode cX4_number 23 = .ok (.isub, 1) := by decide +kernel
theorem dX4_number_24 : decode cX4_number 24 = .ok (.iadd, 1) := by decide +kernel
theorem dX4_number_25 : decode cX4_number 25 = .ok (.istore_n 3, 1) := by decide +kernel
theorem dX4_number_26 : decode cX4_number 26 = .ok (.iinc 4 1, 3) := by decide +kernel
theorem dX4_number_29 : decode cX4_number 29 = .ok (.goto (-24), 3) := by decide +kernel
theorem dX4_number_32 : decode cX4_number 32 = .ok (.iload_n 3, 1) := by decide +kernel
theorem dX4_number_33 : decode cX4_number 33 = .ok (.ireturn, 1) := by decide +kernel
theorem dX4_figure_0 : decode cX4_figure 0 = .ok (.iload_n 1, 1) := by decide +kernel
theorem dX4_figure_1 : decode cX4_figure 1 = .ok (.bipush 48, 2) := by decide +kernel
theorem dX4_figure_3 : decode cX4_figure 3 = .ok (.if_icmp .lt 14, 3) := by decide +kernel
theorem dX4_figure_6 : decode cX4_figure 6 = .ok (.iload_n 1, 1) := by decide +kernel
theorem dX4_figure_7 : decode cX4_figure 7 = .ok (.bipush 57, 2) := by decide +kernel
theorem dX4_figure_9 : decode cX4_figure 9 = .ok (.if_icmp .gt 8, 3) := by decide +kernel
theorem dX4_figure_12 : decode cX4_figure 12 = .ok (.iload_n 1, 1) := by decide +kernel
theorem dX4_figure_13 : decode cX4_figure 13 = .ok (.bipush 48, 2) := by decide +kernel
theorem dX4_figure_15 : decode cX4_figure 15 = .ok (.isub, 1) := by decide +kernel
theorem dX4_figure_16 : decode cX4_figure 16 = .ok (.ireturn, 1) := by decide +kernel
theorem dX4_figure_17 : decode cX4_figure 17 = .ok (.iload_n 1, 1) := by decide +kernel
theorem dX4_figure_18 : decode cX4_figure 18 = .ok (.bipush 97, 2) := by decide +kernel
theorem dX4_figure_20 : decode cX4_figure 20 = .ok (.if_icmp .lt 19, 3) := by decide +kernel
theorem dX4_figure_23 : decode cX4_figure 23 = .ok (.iload_n 1, 1) := by decide +kernel
theorem dX4_figure_24 : decode cX4_figure 24 = .ok (.bipush 102, 2) := by decide +kernel
theorem dX4_figure_26 : decode cX4_figure 26 = .ok (.if_icmp .gt 13, 3) := by decide +kernel
theorem dX4_figure_29 : decode cX4_figure 29 = .ok (.iload_n 1, 1) := by decide +kernel
theorem dX4_figure_30 : decode cX4_figure 30 = .ok (.bipush 97, 2) := by decide +kernel
theorem dX4_figure_32 : decode cX4_figure 32 = .ok (.isub, 1) := by decide +kernel
theorem dX4_figure_33 : decode cX4_figure 33 = .ok (.bipush 10, 2) := by decide +kernel
theorem dX4_figure_35 : decode cX4_figure 35 = .ok (.iadd, 1) := by decide +kernel
theorem dX4_figure_36 : decode cX4_figure 36 = .ok (.goto 4, 3) := by decide +kernel
theorem dX4_figure_39 : decode cX4_figure 39 = .ok (.iconst (-1), 1) := by decide +kernel
theorem dX4_figure_40 : decode cX4_figure 40 = .ok (.ireturn, 1) := by decide +kernel
theorem dX7_init_0 : decode cX7_init 0 = .ok (.aload_n 0, 1) := by decide +kernel
theorem dX7_init_1 : decode cX7_init 1 = .ok (.invokespecial 5, 3) := by decide +kernel
theorem dX7_init_4 : decode cX7_init 4 = .ok (.aload_n 0, 1) := by decide +kernel
theorem dX7_init_5 : decode cX7_init 5 = .ok (.bipush 8, 2) := by decide +kernel
theorem dX7_init_7 : decode cX7_init 7 = .ok (.newarray .int, 2) := by decide +kernel
theorem dX7_init_9 : decode cX7_init 9 = .ok (.putfield 11, 3) := by decide +kernel
theorem dX7_init_12 : decode cX7_init 12 = .ok (.aload_n 0, 1) := by decide +kernel
theorem dX7_init_13 : decode cX7_init 13 = .ok (.bipush 8, 2) := by decide +kernel
theorem dX7_init_15 : decode cX7_init 15 = .ok (.newarray .int, 2) := by decide +kernel
theorem dX7_init_17 : decode cX7_init 17 = .ok (.putfield 15, 3) := by decide +kernel
theorem dX7_init_20 : decode cX7_init 20 = .ok (.aload_n 0, 1) := by decide +kernel
theorem dX7_init_21 : decode cX7_init 21 = .ok (.sipush 128, 3) := by decide +kernel
theorem dX7_init_24 : decode cX7_init 24 = .ok (.newarray .int, 2) := by decide +kernel
theorem dX7_init_26 : decode cX7_init 26 = .ok (.putfield 18, 3) := by decide +kernel
theorem dX7_init_29 : decode cX7_init 29 = .ok (.aload_n 0, 1) := by decide +kernel
